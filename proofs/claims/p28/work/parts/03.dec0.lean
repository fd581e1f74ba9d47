theorem zkX0_init_0 : zqc cX0_init 0 [42, 183, 0, 3, 42, 16, 16, 188, 10, 181, 0, 9, 42, 16, 16, 188, 10, 181, 0, 15, 42, 16, 16, 188, 10, 181, 0, 18, 42, 16, 16, 188, 10, 181] := zq_of 34 (by decide +kernel)
theorem dX0_init_0 : decode cX0_init 0 = .ok (.aload_n 0, 1) := zq_0 zo_42 zkX0_init_0 0 rfl rfl
theorem dX0_init_1 : decode cX0_init 1 = .ok (.invokespecial 3, 3) := zq_2 zo_183 zkX0_init_0 1 rfl rfl 0 3 rfl rfl _ rfl
theorem dX0_init_4 : decode cX0_init 4 = .ok (.aload_n 0, 1) := zq_0 zo_42 zkX0_init_0 4 rfl rfl
theorem dX0_init_5 : decode cX0_init 5 = .ok (.bipush 16, 2) := zq_1s zo_16 zkX0_init_0 5 rfl rfl 16 rfl _ (by decide +kernel)
theorem dX0_init_7 : decode cX0_init 7 = .ok (.newarray .int, 2) := by decide +kernel
theorem dX0_init_9 : decode cX0_init 9 = .ok (.putfield 9, 3) := zq_2 zo_181 zkX0_init_0 9 rfl rfl 0 9 rfl rfl _ rfl
theorem dX0_init_12 : decode cX0_init 12 = .ok (.aload_n 0, 1) := zq_0 zo_42 zkX0_init_0 12 rfl rfl
theorem dX0_init_13 : decode cX0_init 13 = .ok (.bipush 16, 2) := zq_1s zo_16 zkX0_init_0 13 rfl rfl 16 rfl _ (by decide +kernel)
theorem dX0_init_15 : decode cX0_init 15 = .ok (.newarray .int, 2) := by decide +kernel
theorem dX0_init_17 : decode cX0_init 17 = .ok (.putfield 15, 3) := zq_2 zo_181 zkX0_init_0 17 rfl rfl 0 15 rfl rfl _ rfl
theorem dX0_init_20 : decode cX0_init 20 = .ok (.aload_n 0, 1) := zq_0 zo_42 zkX0_init_0 20 rfl rfl
theorem dX0_init_21 : decode cX0_init 21 = .ok (.bipush 16, 2) := zq_1s zo_16 zkX0_init_0 21 rfl rfl 16 rfl _ (by decide +kernel)
theorem dX0_init_23 : decode cX0_init 23 = .ok (.newarray .int, 2) := by decide +kernel
theorem dX0_init_25 : decode cX0_init 25 = .ok (.putfield 18, 3) := zq_2 zo_181 zkX0_init_0 25 rfl rfl 0 18 rfl rfl _ rfl
theorem dX0_init_28 : decode cX0_init 28 = .ok (.aload_n 0, 1) := zq_0 zo_42 zkX0_init_0 28 rfl rfl
theorem dX0_init_29 : decode cX0_init 29 = .ok (.bipush 16, 2) := zq_1s zo_16 zkX0_init_0 29 rfl rfl 16 rfl _ (by decide +kernel)
theorem dX0_init_31 : decode cX0_init 31 = .ok (.newarray .int, 2) := by decide +kernel
theorem zkX0_init_32 : zqc cX0_init 32 [10, 181, 0, 21, 42, 16, 16, 188, 10, 181, 0, 24, 42, 16, 6, 188, 10, 181, 0, 27, 42, 16, 6, 188, 10, 181, 0, 30, 42, 16, 6, 188, 10, 181] := zq_of 34 (by decide +kernel)
theorem dX0_init_33 : decode cX0_init 33 = .ok (.putfield 21, 3) := zq_2 zo_181 zkX0_init_32 1 rfl rfl 0 21 rfl rfl _ rfl
theorem dX0_init_36 : decode cX0_init 36 = .ok (.aload_n 0, 1) := zq_0 zo_42 zkX0_init_32 4 rfl rfl
theorem dX0_init_37 : decode cX0_init 37 = .ok (.bipush 16, 2) := zq_1s zo_16 zkX0_init_32 5 rfl rfl 16 rfl _ (by decide +kernel)
theorem dX0_init_39 : decode cX0_init 39 = .ok (.newarray .int, 2) := by decide +kernel
theorem dX0_init_41 : decode cX0_init 41 = .ok (.putfield 24, 3) := zq_2 zo_181 zkX0_init_32 9 rfl rfl 0 24 rfl rfl _ rfl
theorem dX0_init_44 : decode cX0_init 44 = .ok (.aload_n 0, 1) := zq_0 zo_42 zkX0_init_32 12 rfl rfl
theorem dX0_init_45 : decode cX0_init 45 = .ok (.bipush 6, 2) := zq_1s zo_16 zkX0_init_32 13 rfl rfl 6 rfl _ (by decide +kernel)
theorem dX0_init_47 : decode cX0_init 47 = .ok (.newarray .int, 2) := by decide +kernel
theorem dX0_init_49 : decode cX0_init 49 = .ok (.putfield 27, 3) := zq_2 zo_181 zkX0_init_32 17 rfl rfl 0 27 rfl rfl _ rfl
theorem dX0_init_52 : decode cX0_init 52 = .ok (.aload_n 0, 1) := zq_0 zo_42 zkX0_init_32 20 rfl rfl
theorem dX0_init_53 : decode cX0_init 53 = .ok (.bipush 6, 2) := zq_1s zo_16 zkX0_init_32 21 rfl rfl 6 rfl _ (by decide +kernel)
theorem dX0_init_55 : decode cX0_init 55 = .ok (.newarray .int, 2) := by decide +kernel
theorem dX0_init_57 : decode cX0_init 57 = .ok (.putfield 30, 3) := zq_2 zo_181 zkX0_init_32 25 rfl rfl 0 30 rfl rfl _ rfl
theorem dX0_init_60 : decode cX0_init 60 = .ok (.aload_n 0, 1) := zq_0 zo_42 zkX0_init_32 28 rfl rfl
theorem dX0_init_61 : decode cX0_init 61 = .ok (.bipush 6, 2) := zq_1s zo_16 zkX0_init_32 29 rfl rfl 6 rfl _ (by decide +kernel)
theorem dX0_init_63 : decode cX0_init 63 = .ok (.newarray .int, 2) := by decide +kernel
theorem zkX0_init_64 : zqc cX0_init 64 [10, 181, 0, 33, 42, 16, 6, 188, 10, 181, 0, 36, 42, 16, 6, 188, 10, 181, 0, 39, 42, 16, 6, 188, 10, 181, 0, 42, 177] := zq_of 29 (by decide +kernel)
theorem dX0_init_65 : decode cX0_init 65 = .ok (.putfield 33, 3) := zq_2 zo_181 zkX0_init_64 1 rfl rfl 0 33 rfl rfl _ rfl
theorem dX0_init_68 : decode cX0_init 68 = .ok (.aload_n 0, 1) := zq_0 zo_42 zkX0_init_64 4 rfl rfl
theorem dX0_init_69 : decode cX0_init 69 = .ok (.bipush 6, 2) := zq_1s zo_16 zkX0_init_64 5 rfl rfl 6 rfl _ (by decide +kernel)
theorem dX0_init_71 : decode cX0_init 71 = .ok (.newarray .int, 2) := by decide +kernel
theorem dX0_init_73 : decode cX0_init 73 = .ok (.putfield 36, 3) := zq_2 zo_181 zkX0_init_64 9 rfl rfl 0 36 rfl rfl _ rfl
theorem dX0_init_76 : decode cX0_init 76 = .ok (.aload_n 0, 1) := zq_0 zo_42 zkX0_init_64 12 rfl rfl
theorem dX0_init_77 : decode cX0_init 77 = .ok (.bipush 6, 2) := zq_1s zo_16 zkX0_init_64 13 rfl rfl 6 rfl _ (by decide +kernel)
theorem dX0_init_79 : decode cX0_init 79 = .ok (.newarray .int, 2) := by decide +kernel
theorem dX0_init_81 : decode cX0_init 81 = .ok (.putfield 39, 3) := zq_2 zo_181 zkX0_init_64 17 rfl rfl 0 39 rfl rfl _ rfl
theorem dX0_init_84 : decode cX0_init 84 = .ok (.aload_n 0, 1) := zq_0 zo_42 zkX0_init_64 20 rfl rfl
theorem dX0_init_85 : decode cX0_init 85 = .ok (.bipush 6, 2) := zq_1s zo_16 zkX0_init_64 21 rfl rfl 6 rfl _ (by decide +kernel)
theorem dX0_init_87 : decode cX0_init 87 = .ok (.newarray .int, 2) := by decide +kernel
theorem dX0_init_89 : decode cX0_init 89 = .ok (.putfield 42, 3) := zq_2 zo_181 zkX0_init_64 25 rfl rfl 0 42 rfl rfl _ rfl
theorem dX0_init_92 : decode cX0_init 92 = .ok (.return_, 1) := zq_0 zo_177 zkX0_init_64 28 rfl rfl
theorem zkX0_clear_0 : zqc cX0_clear 0 [42, 3, 181, 0, 45, 42, 3, 181, 0, 49, 42, 5, 181, 0, 52, 42, 3, 181, 0, 55, 42, 3, 181, 0, 58, 42, 3, 181, 0, 61, 42, 2, 181, 0] := zq_of 34 (by decide +kernel)
theorem dX0_clear_0 : decode cX0_clear 0 = .ok (.aload_n 0, 1) := zq_0 zo_42 zkX0_clear_0 0 rfl rfl
theorem dX0_clear_1 : decode cX0_clear 1 = .ok (.iconst 0, 1) := zq_0 zo_3 zkX0_clear_0 1 rfl rfl
theorem dX0_clear_2 : decode cX0_clear 2 = .ok (.putfield 45, 3) := zq_2 zo_181 zkX0_clear_0 2 rfl rfl 0 45 rfl rfl _ rfl
theorem dX0_clear_5 : decode cX0_clear 5 = .ok (.aload_n 0, 1) := zq_0 zo_42 zkX0_clear_0 5 rfl rfl
theorem dX0_clear_6 : decode cX0_clear 6 = .ok (.iconst 0, 1) := zq_0 zo_3 zkX0_clear_0 6 rfl rfl
theorem dX0_clear_7 : decode cX0_clear 7 = .ok (.putfield 49, 3) := zq_2 zo_181 zkX0_clear_0 7 rfl rfl 0 49 rfl rfl _ rfl
theorem dX0_clear_10 : decode cX0_clear 10 = .ok (.aload_n 0, 1) := zq_0 zo_42 zkX0_clear_0 10 rfl rfl
theorem dX0_clear_11 : decode cX0_clear 11 = .ok (.iconst 2, 1) := zq_0 zo_5 zkX0_clear_0 11 rfl rfl
theorem dX0_clear_12 : decode cX0_clear 12 = .ok (.putfield 52, 3) := zq_2 zo_181 zkX0_clear_0 12 rfl rfl 0 52 rfl rfl _ rfl
theorem dX0_clear_15 : decode cX0_clear 15 = .ok (.aload_n 0, 1) := zq_0 zo_42 zkX0_clear_0 15 rfl rfl
theorem dX0_clear_16 : decode cX0_clear 16 = .ok (.iconst 0, 1) := zq_0 zo_3 zkX0_clear_0 16 rfl rfl
theorem dX0_clear_17 : decode cX0_clear 17 = .ok (.putfield 55, 3) := zq_2 zo_181 zkX0_clear_0 17 rfl rfl 0 55 rfl rfl _ rfl
theorem dX0_clear_20 : decode cX0_clear 20 = .ok (.aload_n 0, 1) := zq_0 zo_42 zkX0_clear_0 20 rfl rfl
theorem dX0_clear_21 : decode cX0_clear 21 = .ok (.iconst 0, 1) := zq_0 zo_3 zkX0_clear_0 21 rfl rfl
theorem dX0_clear_22 : decode cX0_clear 22 = .ok (.putfield 58, 3) := zq_2 zo_181 zkX0_clear_0 22 rfl rfl 0 58 rfl rfl _ rfl
theorem dX0_clear_25 : decode cX0_clear 25 = .ok (.aload_n 0, 1) := zq_0 zo_42 zkX0_clear_0 25 rfl rfl
theorem dX0_clear_26 : decode cX0_clear 26 = .ok (.iconst 0, 1) := zq_0 zo_3 zkX0_clear_0 26 rfl rfl
theorem dX0_clear_27 : decode cX0_clear 27 = .ok (.putfield 61, 3) := zq_2 zo_181 zkX0_clear_0 27 rfl rfl 0 61 rfl rfl _ rfl
theorem dX0_clear_30 : decode cX0_clear 30 = .ok (.aload_n 0, 1) := zq_0 zo_42 zkX0_clear_0 30 rfl rfl
theorem dX0_clear_31 : decode cX0_clear 31 = .ok (.iconst (-1), 1) := zq_0 zo_2 zkX0_clear_0 31 rfl rfl
theorem zkX0_clear_32 : zqc cX0_clear 32 [181, 0, 64, 3, 60, 27, 16, 16, 162, 0, 23, 42, 180, 0, 21, 27, 3, 79, 42, 180, 0, 24, 27, 2, 79, 132, 1, 1, 167, 255, 233, 177] := zq_of 32 (by decide +kernel)
theorem dX0_clear_32 : decode cX0_clear 32 = .ok (.putfield 64, 3) := zq_2 zo_181 zkX0_clear_32 0 rfl rfl 0 64 rfl rfl _ rfl
theorem dX0_clear_35 : decode cX0_clear 35 = .ok (.iconst 0, 1) := zq_0 zo_3 zkX0_clear_32 3 rfl rfl
theorem dX0_clear_36 : decode cX0_clear 36 = .ok (.istore_n 1, 1) := zq_0 zo_60 zkX0_clear_32 4 rfl rfl
theorem dX0_clear_37 : decode cX0_clear 37 = .ok (.iload_n 1, 1) := zq_0 zo_27 zkX0_clear_32 5 rfl rfl
theorem dX0_clear_38 : decode cX0_clear 38 = .ok (.bipush 16, 2) := zq_1s zo_16 zkX0_clear_32 6 rfl rfl 16 rfl _ (by decide +kernel)
theorem dX0_clear_40 : decode cX0_clear 40 = .ok (.if_icmp .ge 23, 3) := zq_2s zo_162 zkX0_clear_32 8 rfl rfl 0 23 rfl rfl _ (by decide +kernel)
theorem dX0_clear_43 : decode cX0_clear 43 = .ok (.aload_n 0, 1) := zq_0 zo_42 zkX0_clear_32 11 rfl rfl
theorem dX0_clear_44 : decode cX0_clear 44 = .ok (.getfield 21, 3) := zq_2 zo_180 zkX0_clear_32 12 rfl rfl 0 21 rfl rfl _ rfl
theorem dX0_clear_47 : decode cX0_clear 47 = .ok (.iload_n 1, 1) := zq_0 zo_27 zkX0_clear_32 15 rfl rfl
theorem dX0_clear_48 : decode cX0_clear 48 = .ok (.iconst 0, 1) := zq_0 zo_3 zkX0_clear_32 16 rfl rfl
theorem dX0_clear_49 : decode cX0_clear 49 = .ok (.iastore, 1) := zq_0 zo_79 zkX0_clear_32 17 rfl rfl
theorem dX0_clear_50 : decode cX0_clear 50 = .ok (.aload_n 0, 1) := zq_0 zo_42 zkX0_clear_32 18 rfl rfl
theorem dX0_clear_51 : decode cX0_clear 51 = .ok (.getfield 24, 3) := zq_2 zo_180 zkX0_clear_32 19 rfl rfl 0 24 rfl rfl _ rfl
theorem dX0_clear_54 : decode cX0_clear 54 = .ok (.iload_n 1, 1) := zq_0 zo_27 zkX0_clear_32 22 rfl rfl
theorem dX0_clear_55 : decode cX0_clear 55 = .ok (.iconst (-1), 1) := zq_0 zo_2 zkX0_clear_32 23 rfl rfl
theorem dX0_clear_56 : decode cX0_clear 56 = .ok (.iastore, 1) := zq_0 zo_79 zkX0_clear_32 24 rfl rfl
theorem dX0_clear_57 : decode cX0_clear 57 = .ok (.iinc 1 1, 3) := zq_ii zo_132 zkX0_clear_32 25 rfl rfl 1 1 rfl rfl _ (by decide +kernel)
theorem dX0_clear_60 : decode cX0_clear 60 = .ok (.goto (-23), 3) := zq_2s zo_167 zkX0_clear_32 28 rfl rfl 255 233 rfl rfl _ (by decide +kernel)
theorem dX0_clear_63 : decode cX0_clear 63 = .ok (.return_, 1) := zq_0 zo_177 zkX0_clear_32 31 rfl rfl
theorem zkX0_copyFrom_0 : zqc cX0_copyFrom 0 [43, 180, 0, 9, 3, 42, 180, 0, 9, 3, 16, 16, 184, 0, 67, 43, 180, 0, 15, 3, 42, 180, 0, 15, 3, 16, 16, 184, 0, 67, 43, 180, 0, 18] := zq_of 34 (by decide +kernel)
theorem dX0_copyFrom_0 : decode cX0_copyFrom 0 = .ok (.aload_n 1, 1) := zq_0 zo_43 zkX0_copyFrom_0 0 rfl rfl
theorem dX0_copyFrom_1 : decode cX0_copyFrom 1 = .ok (.getfield 9, 3) := zq_2 zo_180 zkX0_copyFrom_0 1 rfl rfl 0 9 rfl rfl _ rfl
theorem dX0_copyFrom_4 : decode cX0_copyFrom 4 = .ok (.iconst 0, 1) := zq_0 zo_3 zkX0_copyFrom_0 4 rfl rfl
theorem dX0_copyFrom_5 : decode cX0_copyFrom 5 = .ok (.aload_n 0, 1) := zq_0 zo_42 zkX0_copyFrom_0 5 rfl rfl
theorem dX0_copyFrom_6 : decode cX0_copyFrom 6 = .ok (.getfield 9, 3) := zq_2 zo_180 zkX0_copyFrom_0 6 rfl rfl 0 9 rfl rfl _ rfl
theorem dX0_copyFrom_9 : decode cX0_copyFrom 9 = .ok (.iconst 0, 1) := zq_0 zo_3 zkX0_copyFrom_0 9 rfl rfl
theorem dX0_copyFrom_10 : decode cX0_copyFrom 10 = .ok (.bipush 16, 2) := zq_1s zo_16 zkX0_copyFrom_0 10 rfl rfl 16 rfl _ (by decide +kernel)
theorem dX0_copyFrom_12 : decode cX0_copyFrom 12 = .ok (.invokestatic 67, 3) := zq_2 zo_184 zkX0_copyFrom_0 12 rfl rfl 0 67 rfl rfl _ rfl
theorem dX0_copyFrom_15 : decode cX0_copyFrom 15 = .ok (.aload_n 1, 1) := zq_0 zo_43 zkX0_copyFrom_0 15 rfl rfl
theorem dX0_copyFrom_16 : decode cX0_copyFrom 16 = .ok (.getfield 15, 3) := zq_2 zo_180 zkX0_copyFrom_0 16 rfl rfl 0 15 rfl rfl _ rfl
theorem dX0_copyFrom_19 : decode cX0_copyFrom 19 = .ok (.iconst 0, 1) := zq_0 zo_3 zkX0_copyFrom_0 19 rfl rfl
theorem dX0_copyFrom_20 : decode cX0_copyFrom 20 = .ok (.aload_n 0, 1) := zq_0 zo_42 zkX0_copyFrom_0 20 rfl rfl
theorem dX0_copyFrom_21 : decode cX0_copyFrom 21 = .ok (.getfield 15, 3) := zq_2 zo_180 zkX0_copyFrom_0 21 rfl rfl 0 15 rfl rfl _ rfl
theorem dX0_copyFrom_24 : decode cX0_copyFrom 24 = .ok (.iconst 0, 1) := zq_0 zo_3 zkX0_copyFrom_0 24 rfl rfl
theorem dX0_copyFrom_25 : decode cX0_copyFrom 25 = .ok (.bipush 16, 2) := zq_1s zo_16 zkX0_copyFrom_0 25 rfl rfl 16 rfl _ (by decide +kernel)
theorem dX0_copyFrom_27 : decode cX0_copyFrom 27 = .ok (.invokestatic 67, 3) := zq_2 zo_184 zkX0_copyFrom_0 27 rfl rfl 0 67 rfl rfl _ rfl
theorem dX0_copyFrom_30 : decode cX0_copyFrom 30 = .ok (.aload_n 1, 1) := zq_0 zo_43 zkX0_copyFrom_0 30 rfl rfl
theorem dX0_copyFrom_31 : decode cX0_copyFrom 31 = .ok (.getfield 18, 3) := zq_2 zo_180 zkX0_copyFrom_0 31 rfl rfl 0 18 rfl rfl _ rfl
theorem zkX0_copyFrom_32 : zqc cX0_copyFrom 32 [0, 18, 3, 42, 180, 0, 18, 3, 16, 16, 184, 0, 67, 43, 180, 0, 21, 3, 42, 180, 0, 21, 3, 16, 16, 184, 0, 67, 43, 180, 0, 24, 3, 42] := zq_of 34 (by decide +kernel)
theorem dX0_copyFrom_34 : decode cX0_copyFrom 34 = .ok (.iconst 0, 1) := zq_0 zo_3 zkX0_copyFrom_32 2 rfl rfl
theorem dX0_copyFrom_35 : decode cX0_copyFrom 35 = .ok (.aload_n 0, 1) := zq_0 zo_42 zkX0_copyFrom_32 3 rfl rfl
theorem dX0_copyFrom_36 : decode cX0_copyFrom 36 = .ok (.getfield 18, 3) := zq_2 zo_180 zkX0_copyFrom_32 4 rfl rfl 0 18 rfl rfl _ rfl
theorem dX0_copyFrom_39 : decode cX0_copyFrom 39 = .ok (.iconst 0, 1) := zq_0 zo_3 zkX0_copyFrom_32 7 rfl rfl
theorem dX0_copyFrom_40 : decode cX0_copyFrom 40 = .ok (.bipush 16, 2) := zq_1s zo_16 zkX0_copyFrom_32 8 rfl rfl 16 rfl _ (by decide +kernel)
theorem dX0_copyFrom_42 : decode cX0_copyFrom 42 = .ok (.invokestatic 67, 3) := zq_2 zo_184 zkX0_copyFrom_32 10 rfl rfl 0 67 rfl rfl _ rfl
theorem dX0_copyFrom_45 : decode cX0_copyFrom 45 = .ok (.aload_n 1, 1) := zq_0 zo_43 zkX0_copyFrom_32 13 rfl rfl
theorem dX0_copyFrom_46 : decode cX0_copyFrom 46 = .ok (.getfield 21, 3) := zq_2 zo_180 zkX0_copyFrom_32 14 rfl rfl 0 21 rfl rfl _ rfl
theorem dX0_copyFrom_49 : decode cX0_copyFrom 49 = .ok (.iconst 0, 1) := zq_0 zo_3 zkX0_copyFrom_32 17 rfl rfl
theorem dX0_copyFrom_50 : decode cX0_copyFrom 50 = .ok (.aload_n 0, 1) := zq_0 zo_42 zkX0_copyFrom_32 18 rfl rfl
theorem dX0_copyFrom_51 : decode cX0_copyFrom 51 = .ok (.getfield 21, 3) := zq_2 zo_180 zkX0_copyFrom_32 19 rfl rfl 0 21 rfl rfl _ rfl
theorem dX0_copyFrom_54 : decode cX0_copyFrom 54 = .ok (.iconst 0, 1) := zq_0 zo_3 zkX0_copyFrom_32 22 rfl rfl
theorem dX0_copyFrom_55 : decode cX0_copyFrom 55 = .ok (.bipush 16, 2) := zq_1s zo_16 zkX0_copyFrom_32 23 rfl rfl 16 rfl _ (by decide +kernel)
theorem dX0_copyFrom_57 : decode cX0_copyFrom 57 = .ok (.invokestatic 67, 3) := zq_2 zo_184 zkX0_copyFrom_32 25 rfl rfl 0 67 rfl rfl _ rfl
theorem dX0_copyFrom_60 : decode cX0_copyFrom 60 = .ok (.aload_n 1, 1) := zq_0 zo_43 zkX0_copyFrom_32 28 rfl rfl
theorem dX0_copyFrom_61 : decode cX0_copyFrom 61 = .ok (.getfield 24, 3) := zq_2 zo_180 zkX0_copyFrom_32 29 rfl rfl 0 24 rfl rfl _ rfl
theorem zkX0_copyFrom_64 : zqc cX0_copyFrom 64 [3, 42, 180, 0, 24, 3, 16, 16, 184, 0, 67, 43, 180, 0, 27, 3, 42, 180, 0, 27, 3, 16, 6, 184, 0, 67, 43, 180, 0, 30, 3, 42, 180, 0] := zq_of 34 (by decide +kernel)
theorem dX0_copyFrom_64 : decode cX0_copyFrom 64 = .ok (.iconst 0, 1) := zq_0 zo_3 zkX0_copyFrom_64 0 rfl rfl
theorem dX0_copyFrom_65 : decode cX0_copyFrom 65 = .ok (.aload_n 0, 1) := zq_0 zo_42 zkX0_copyFrom_64 1 rfl rfl
theorem dX0_copyFrom_66 : decode cX0_copyFrom 66 = .ok (.getfield 24, 3) := zq_2 zo_180 zkX0_copyFrom_64 2 rfl rfl 0 24 rfl rfl _ rfl
theorem dX0_copyFrom_69 : decode cX0_copyFrom 69 = .ok (.iconst 0, 1) := zq_0 zo_3 zkX0_copyFrom_64 5 rfl rfl
theorem dX0_copyFrom_70 : decode cX0_copyFrom 70 = .ok (.bipush 16, 2) := zq_1s zo_16 zkX0_copyFrom_64 6 rfl rfl 16 rfl _ (by decide +kernel)
theorem dX0_copyFrom_72 : decode cX0_copyFrom 72 = .ok (.invokestatic 67, 3) := zq_2 zo_184 zkX0_copyFrom_64 8 rfl rfl 0 67 rfl rfl _ rfl
theorem dX0_copyFrom_75 : decode cX0_copyFrom 75 = .ok (.aload_n 1, 1) := zq_0 zo_43 zkX0_copyFrom_64 11 rfl rfl
theorem dX0_copyFrom_76 : decode cX0_copyFrom 76 = .ok (.getfield 27, 3) := zq_2 zo_180 zkX0_copyFrom_64 12 rfl rfl 0 27 rfl rfl _ rfl
theorem dX0_copyFrom_79 : decode cX0_copyFrom 79 = .ok (.iconst 0, 1) := zq_0 zo_3 zkX0_copyFrom_64 15 rfl rfl
theorem dX0_copyFrom_80 : decode cX0_copyFrom 80 = .ok (.aload_n 0, 1) := zq_0 zo_42 zkX0_copyFrom_64 16 rfl rfl
theorem dX0_copyFrom_81 : decode cX0_copyFrom 81 = .ok (.getfield 27, 3) := zq_2 zo_180 zkX0_copyFrom_64 17 rfl rfl 0 27 rfl rfl _ rfl
theorem dX0_copyFrom_84 : decode cX0_copyFrom 84 = .ok (.iconst 0, 1) := zq_0 zo_3 zkX0_copyFrom_64 20 rfl rfl
theorem dX0_copyFrom_85 : decode cX0_copyFrom 85 = .ok (.bipush 6, 2) := zq_1s zo_16 zkX0_copyFrom_64 21 rfl rfl 6 rfl _ (by decide +kernel)
theorem dX0_copyFrom_87 : decode cX0_copyFrom 87 = .ok (.invokestatic 67, 3) := zq_2 zo_184 zkX0_copyFrom_64 23 rfl rfl 0 67 rfl rfl _ rfl
theorem dX0_copyFrom_90 : decode cX0_copyFrom 90 = .ok (.aload_n 1, 1) := zq_0 zo_43 zkX0_copyFrom_64 26 rfl rfl
theorem dX0_copyFrom_91 : decode cX0_copyFrom 91 = .ok (.getfield 30, 3) := zq_2 zo_180 zkX0_copyFrom_64 27 rfl rfl 0 30 rfl rfl _ rfl
theorem dX0_copyFrom_94 : decode cX0_copyFrom 94 = .ok (.iconst 0, 1) := zq_0 zo_3 zkX0_copyFrom_64 30 rfl rfl
theorem dX0_copyFrom_95 : decode cX0_copyFrom 95 = .ok (.aload_n 0, 1) := zq_0 zo_42 zkX0_copyFrom_64 31 rfl rfl
theorem zkX0_copyFrom_96 : zqc cX0_copyFrom 96 [180, 0, 30, 3, 16, 6, 184, 0, 67, 43, 180, 0, 33, 3, 42, 180, 0, 33, 3, 16, 6, 184, 0, 67, 43, 180, 0, 36, 3, 42, 180, 0, 36, 3] := zq_of 34 (by decide +kernel)
theorem dX0_copyFrom_96 : decode cX0_copyFrom 96 = .ok (.getfield 30, 3) := zq_2 zo_180 zkX0_copyFrom_96 0 rfl rfl 0 30 rfl rfl _ rfl
theorem dX0_copyFrom_99 : decode cX0_copyFrom 99 = .ok (.iconst 0, 1) := zq_0 zo_3 zkX0_copyFrom_96 3 rfl rfl
theorem dX0_copyFrom_100 : decode cX0_copyFrom 100 = .ok (.bipush 6, 2) := zq_1s zo_16 zkX0_copyFrom_96 4 rfl rfl 6 rfl _ (by decide +kernel)
theorem dX0_copyFrom_102 : decode cX0_copyFrom 102 = .ok (.invokestatic 67, 3) := zq_2 zo_184 zkX0_copyFrom_96 6 rfl rfl 0 67 rfl rfl _ rfl
theorem dX0_copyFrom_105 : decode cX0_copyFrom 105 = .ok (.aload_n 1, 1) := zq_0 zo_43 zkX0_copyFrom_96 9 rfl rfl
theorem dX0_copyFrom_106 : decode cX0_copyFrom 106 = .ok (.getfield 33, 3) := zq_2 zo_180 zkX0_copyFrom_96 10 rfl rfl 0 33 rfl rfl _ rfl
theorem dX0_copyFrom_109 : decode cX0_copyFrom 109 = .ok (.iconst 0, 1) := zq_0 zo_3 zkX0_copyFrom_96 13 rfl rfl
theorem dX0_copyFrom_110 : decode cX0_copyFrom 110 = .ok (.aload_n 0, 1) := zq_0 zo_42 zkX0_copyFrom_96 14 rfl rfl
theorem dX0_copyFrom_111 : decode cX0_copyFrom 111 = .ok (.getfield 33, 3) := zq_2 zo_180 zkX0_copyFrom_96 15 rfl rfl 0 33 rfl rfl _ rfl
theorem dX0_copyFrom_114 : decode cX0_copyFrom 114 = .ok (.iconst 0, 1) := zq_0 zo_3 zkX0_copyFrom_96 18 rfl rfl
theorem dX0_copyFrom_115 : decode cX0_copyFrom 115 = .ok (.bipush 6, 2) := zq_1s zo_16 zkX0_copyFrom_96 19 rfl rfl 6 rfl _ (by decide +kernel)
theorem dX0_copyFrom_117 : decode cX0_copyFrom 117 = .ok (.invokestatic 67, 3) := zq_2 zo_184 zkX0_copyFrom_96 21 rfl rfl 0 67 rfl rfl _ rfl
theorem dX0_copyFrom_120 : decode cX0_copyFrom 120 = .ok (.aload_n 1, 1) := zq_0 zo_43 zkX0_copyFrom_96 24 rfl rfl
theorem dX0_copyFrom_121 : decode cX0_copyFrom 121 = .ok (.getfield 36, 3) := zq_2 zo_180 zkX0_copyFrom_96 25 rfl rfl 0 36 rfl rfl _ rfl
theorem dX0_copyFrom_124 : decode cX0_copyFrom 124 = .ok (.iconst 0, 1) := zq_0 zo_3 zkX0_copyFrom_96 28 rfl rfl
theorem dX0_copyFrom_125 : decode cX0_copyFrom 125 = .ok (.aload_n 0, 1) := zq_0 zo_42 zkX0_copyFrom_96 29 rfl rfl
theorem dX0_copyFrom_126 : decode cX0_copyFrom 126 = .ok (.getfield 36, 3) := zq_2 zo_180 zkX0_copyFrom_96 30 rfl rfl 0 36 rfl rfl _ rfl
theorem zkX0_copyFrom_128 : zqc cX0_copyFrom 128 [36, 3, 16, 6, 184, 0, 67, 43, 180, 0, 39, 3, 42, 180, 0, 39, 3, 16, 6, 184, 0, 67, 43, 180, 0, 42, 3, 42, 180, 0, 42, 3, 16, 6] := zq_of 34 (by decide +kernel)
theorem dX0_copyFrom_129 : decode cX0_copyFrom 129 = .ok (.iconst 0, 1) := zq_0 zo_3 zkX0_copyFrom_128 1 rfl rfl
theorem dX0_copyFrom_130 : decode cX0_copyFrom 130 = .ok (.bipush 6, 2) := zq_1s zo_16 zkX0_copyFrom_128 2 rfl rfl 6 rfl _ (by decide +kernel)
theorem dX0_copyFrom_132 : decode cX0_copyFrom 132 = .ok (.invokestatic 67, 3) := zq_2 zo_184 zkX0_copyFrom_128 4 rfl rfl 0 67 rfl rfl _ rfl
theorem dX0_copyFrom_135 : decode cX0_copyFrom 135 = .ok (.aload_n 1, 1) := zq_0 zo_43 zkX0_copyFrom_128 7 rfl rfl
theorem dX0_copyFrom_136 : decode cX0_copyFrom 136 = .ok (.getfield 39, 3) := zq_2 zo_180 zkX0_copyFrom_128 8 rfl rfl 0 39 rfl rfl _ rfl
theorem dX0_copyFrom_139 : decode cX0_copyFrom 139 = .ok (.iconst 0, 1) := zq_0 zo_3 zkX0_copyFrom_128 11 rfl rfl
theorem dX0_copyFrom_140 : decode cX0_copyFrom 140 = .ok (.aload_n 0, 1) := zq_0 zo_42 zkX0_copyFrom_128 12 rfl rfl
theorem dX0_copyFrom_141 : decode cX0_copyFrom 141 = .ok (.getfield 39, 3) := zq_2 zo_180 zkX0_copyFrom_128 13 rfl rfl 0 39 rfl rfl _ rfl
theorem dX0_copyFrom_144 : decode cX0_copyFrom 144 = .ok (.iconst 0, 1) := zq_0 zo_3 zkX0_copyFrom_128 16 rfl rfl
theorem dX0_copyFrom_145 : decode cX0_copyFrom 145 = .ok (.bipush 6, 2) := zq_1s zo_16 zkX0_copyFrom_128 17 rfl rfl 6 rfl _ (by decide +kernel)
theorem dX0_copyFrom_147 : decode cX0_copyFrom 147 = .ok (.invokestatic 67, 3) := zq_2 zo_184 zkX0_copyFrom_128 19 rfl rfl 0 67 rfl rfl _ rfl
theorem dX0_copyFrom_150 : decode cX0_copyFrom 150 = .ok (.aload_n 1, 1) := zq_0 zo_43 zkX0_copyFrom_128 22 rfl rfl
theorem dX0_copyFrom_151 : decode cX0_copyFrom 151 = .ok (.getfield 42, 3) := zq_2 zo_180 zkX0_copyFrom_128 23 rfl rfl 0 42 rfl rfl _ rfl
theorem dX0_copyFrom_154 : decode cX0_copyFrom 154 = .ok (.iconst 0, 1) := zq_0 zo_3 zkX0_copyFrom_128 26 rfl rfl
theorem dX0_copyFrom_155 : decode cX0_copyFrom 155 = .ok (.aload_n 0, 1) := zq_0 zo_42 zkX0_copyFrom_128 27 rfl rfl
theorem dX0_copyFrom_156 : decode cX0_copyFrom 156 = .ok (.getfield 42, 3) := zq_2 zo_180 zkX0_copyFrom_128 28 rfl rfl 0 42 rfl rfl _ rfl
theorem dX0_copyFrom_159 : decode cX0_copyFrom 159 = .ok (.iconst 0, 1) := zq_0 zo_3 zkX0_copyFrom_128 31 rfl rfl
theorem zkX0_copyFrom_160 : zqc cX0_copyFrom 160 [16, 6, 184, 0, 67, 42, 43, 180, 0, 45, 181, 0, 45, 42, 43, 180, 0, 49, 181, 0, 49, 42, 43, 180, 0, 52, 181, 0, 52, 42, 43, 180, 0, 55] := zq_of 34 (by decide +kernel)
theorem dX0_copyFrom_160 : decode cX0_copyFrom 160 = .ok (.bipush 6, 2) := zq_1s zo_16 zkX0_copyFrom_160 0 rfl rfl 6 rfl _ (by decide +kernel)
theorem dX0_copyFrom_162 : decode cX0_copyFrom 162 = .ok (.invokestatic 67, 3) := zq_2 zo_184 zkX0_copyFrom_160 2 rfl rfl 0 67 rfl rfl _ rfl
theorem dX0_copyFrom_165 : decode cX0_copyFrom 165 = .ok (.aload_n 0, 1) := zq_0 zo_42 zkX0_copyFrom_160 5 rfl rfl
theorem dX0_copyFrom_166 : decode cX0_copyFrom 166 = .ok (.aload_n 1, 1) := zq_0 zo_43 zkX0_copyFrom_160 6 rfl rfl
theorem dX0_copyFrom_167 : decode cX0_copyFrom 167 = .ok (.getfield 45, 3) := zq_2 zo_180 zkX0_copyFrom_160 7 rfl rfl 0 45 rfl rfl _ rfl
theorem dX0_copyFrom_170 : decode cX0_copyFrom 170 = .ok (.putfield 45, 3) := zq_2 zo_181 zkX0_copyFrom_160 10 rfl rfl 0 45 rfl rfl _ rfl
theorem dX0_copyFrom_173 : decode cX0_copyFrom 173 = .ok (.aload_n 0, 1) := zq_0 zo_42 zkX0_copyFrom_160 13 rfl rfl
theorem dX0_copyFrom_174 : decode cX0_copyFrom 174 = .ok (.aload_n 1, 1) := zq_0 zo_43 zkX0_copyFrom_160 14 rfl rfl
theorem dX0_copyFrom_175 : decode cX0_copyFrom 175 = .ok (.getfield 49, 3) := zq_2 zo_180 zkX0_copyFrom_160 15 rfl rfl 0 49 rfl rfl _ rfl
theorem dX0_copyFrom_178 : decode cX0_copyFrom 178 = .ok (.putfield 49, 3) := zq_2 zo_181 zkX0_copyFrom_160 18 rfl rfl 0 49 rfl rfl _ rfl
theorem dX0_copyFrom_181 : decode cX0_copyFrom 181 = .ok (.aload_n 0, 1) := zq_0 zo_42 zkX0_copyFrom_160 21 rfl rfl
theorem dX0_copyFrom_182 : decode cX0_copyFrom 182 = .ok (.aload_n 1, 1) := zq_0 zo_43 zkX0_copyFrom_160 22 rfl rfl
theorem dX0_copyFrom_183 : decode cX0_copyFrom 183 = .ok (.getfield 52, 3) := zq_2 zo_180 zkX0_copyFrom_160 23 rfl rfl 0 52 rfl rfl _ rfl
theorem dX0_copyFrom_186 : decode cX0_copyFrom 186 = .ok (.putfield 52, 3) := zq_2 zo_181 zkX0_copyFrom_160 26 rfl rfl 0 52 rfl rfl _ rfl
theorem dX0_copyFrom_189 : decode cX0_copyFrom 189 = .ok (.aload_n 0, 1) := zq_0 zo_42 zkX0_copyFrom_160 29 rfl rfl
theorem dX0_copyFrom_190 : decode cX0_copyFrom 190 = .ok (.aload_n 1, 1) := zq_0 zo_43 zkX0_copyFrom_160 30 rfl rfl
theorem dX0_copyFrom_191 : decode cX0_copyFrom 191 = .ok (.getfield 55, 3) := zq_2 zo_180 zkX0_copyFrom_160 31 rfl rfl 0 55 rfl rfl _ rfl
theorem zkX0_copyFrom_192 : zqc cX0_copyFrom 192 [0, 55, 181, 0, 55, 42, 43, 180, 0, 58, 181, 0, 58, 42, 43, 180, 0, 61, 181, 0, 61, 42, 43, 180, 0, 64, 181, 0, 64, 177] := zq_of 30 (by decide +kernel)
theorem dX0_copyFrom_194 : decode cX0_copyFrom 194 = .ok (.putfield 55, 3) := zq_2 zo_181 zkX0_copyFrom_192 2 rfl rfl 0 55 rfl rfl _ rfl
theorem dX0_copyFrom_197 : decode cX0_copyFrom 197 = .ok (.aload_n 0, 1) := zq_0 zo_42 zkX0_copyFrom_192 5 rfl rfl
theorem dX0_copyFrom_198 : decode cX0_copyFrom 198 = .ok (.aload_n 1, 1) := zq_0 zo_43 zkX0_copyFrom_192 6 rfl rfl
theorem dX0_copyFrom_199 : decode cX0_copyFrom 199 = .ok (.getfield 58, 3) := zq_2 zo_180 zkX0_copyFrom_192 7 rfl rfl 0 58 rfl rfl _ rfl
theorem dX0_copyFrom_202 : decode cX0_copyFrom 202 = .ok (.putfield 58, 3) := zq_2 zo_181 zkX0_copyFrom_192 10 rfl rfl 0 58 rfl rfl _ rfl
theorem dX0_copyFrom_205 : decode cX0_copyFrom 205 = .ok (.aload_n 0, 1) := zq_0 zo_42 zkX0_copyFrom_192 13 rfl rfl
theorem dX0_copyFrom_206 : decode cX0_copyFrom 206 = .ok (.aload_n 1, 1) := zq_0 zo_43 zkX0_copyFrom_192 14 rfl rfl
theorem dX0_copyFrom_207 : decode cX0_copyFrom 207 = .ok (.getfield 61, 3) := zq_2 zo_180 zkX0_copyFrom_192 15 rfl rfl 0 61 rfl rfl _ rfl
theorem dX0_copyFrom_210 : decode cX0_copyFrom 210 = .ok (.putfield 61, 3) := zq_2 zo_181 zkX0_copyFrom_192 18 rfl rfl 0 61 rfl rfl _ rfl
theorem dX0_copyFrom_213 : decode cX0_copyFrom 213 = .ok (.aload_n 0, 1) := zq_0 zo_42 zkX0_copyFrom_192 21 rfl rfl
theorem dX0_copyFrom_214 : decode cX0_copyFrom 214 = .ok (.aload_n 1, 1) := zq_0 zo_43 zkX0_copyFrom_192 22 rfl rfl
theorem dX0_copyFrom_215 : decode cX0_copyFrom 215 = .ok (.getfield 64, 3) := zq_2 zo_180 zkX0_copyFrom_192 23 rfl rfl 0 64 rfl rfl _ rfl
theorem dX0_copyFrom_218 : decode cX0_copyFrom 218 = .ok (.putfield 64, 3) := zq_2 zo_181 zkX0_copyFrom_192 26 rfl rfl 0 64 rfl rfl _ rfl
theorem dX0_copyFrom_221 : decode cX0_copyFrom 221 = .ok (.return_, 1) := zq_0 zo_177 zkX0_copyFrom_192 29 rfl rfl
theorem zkX0_hasPost_0 : zqc cX0_hasPost 0 [27, 155, 0, 15, 27, 42, 180, 0, 45, 162, 0, 7, 4, 167, 0, 4, 3, 172] := zq_of 18 (by decide +kernel)
theorem dX0_hasPost_0 : decode cX0_hasPost 0 = .ok (.iload_n 1, 1) := zq_0 zo_27 zkX0_hasPost_0 0 rfl rfl
theorem dX0_hasPost_1 : decode cX0_hasPost 1 = .ok (.ifCond .lt 15, 3) := zq_2s zo_155 zkX0_hasPost_0 1 rfl rfl 0 15 rfl rfl _ (by decide +kernel)
theorem dX0_hasPost_4 : decode cX0_hasPost 4 = .ok (.iload_n 1, 1) := zq_0 zo_27 zkX0_hasPost_0 4 rfl rfl
theorem dX0_hasPost_5 : decode cX0_hasPost 5 = .ok (.aload_n 0, 1) := zq_0 zo_42 zkX0_hasPost_0 5 rfl rfl
theorem dX0_hasPost_6 : decode cX0_hasPost 6 = .ok (.getfield 45, 3) := zq_2 zo_180 zkX0_hasPost_0 6 rfl rfl 0 45 rfl rfl _ rfl
theorem dX0_hasPost_9 : decode cX0_hasPost 9 = .ok (.if_icmp .ge 7, 3) := zq_2s zo_162 zkX0_hasPost_0 9 rfl rfl 0 7 rfl rfl _ (by decide +kernel)
theorem dX0_hasPost_12 : decode cX0_hasPost 12 = .ok (.iconst 1, 1) := zq_0 zo_4 zkX0_hasPost_0 12 rfl rfl
theorem dX0_hasPost_13 : decode cX0_hasPost 13 = .ok (.goto 4, 3) := zq_2s zo_167 zkX0_hasPost_0 13 rfl rfl 0 4 rfl rfl _ (by decide +kernel)
theorem dX0_hasPost_16 : decode cX0_hasPost 16 = .ok (.iconst 0, 1) := zq_0 zo_3 zkX0_hasPost_0 16 rfl rfl
theorem dX0_hasPost_17 : decode cX0_hasPost 17 = .ok (.ireturn, 1) := zq_0 zo_172 zkX0_hasPost_0 17 rfl rfl
theorem zkX0_hasRider_0 : zqc cX0_hasRider 0 [27, 155, 0, 15, 27, 42, 180, 0, 49, 162, 0, 7, 4, 167, 0, 4, 3, 172] := zq_of 18 (by decide +kernel)
theorem dX0_hasRider_0 : decode cX0_hasRider 0 = .ok (.iload_n 1, 1) := zq_0 zo_27 zkX0_hasRider_0 0 rfl rfl
theorem dX0_hasRider_1 : decode cX0_hasRider 1 = .ok (.ifCond .lt 15, 3) := zq_2s zo_155 zkX0_hasRider_0 1 rfl rfl 0 15 rfl rfl _ (by decide +kernel)
theorem dX0_hasRider_4 : decode cX0_hasRider 4 = .ok (.iload_n 1, 1) := zq_0 zo_27 zkX0_hasRider_0 4 rfl rfl
theorem dX0_hasRider_5 : decode cX0_hasRider 5 = .ok (.aload_n 0, 1) := zq_0 zo_42 zkX0_hasRider_0 5 rfl rfl
theorem dX0_hasRider_6 : decode cX0_hasRider 6 = .ok (.getfield 49, 3) := zq_2 zo_180 zkX0_hasRider_0 6 rfl rfl 0 49 rfl rfl _ rfl
theorem dX0_hasRider_9 : decode cX0_hasRider 9 = .ok (.if_icmp .ge 7, 3) := zq_2s zo_162 zkX0_hasRider_0 9 rfl rfl 0 7 rfl rfl _ (by decide +kernel)
theorem dX0_hasRider_12 : decode cX0_hasRider 12 = .ok (.iconst 1, 1) := zq_0 zo_4 zkX0_hasRider_0 12 rfl rfl
theorem dX0_hasRider_13 : decode cX0_hasRider 13 = .ok (.goto 4, 3) := zq_2s zo_167 zkX0_hasRider_0 13 rfl rfl 0 4 rfl rfl _ (by decide +kernel)
theorem dX0_hasRider_16 : decode cX0_hasRider 16 = .ok (.iconst 0, 1) := zq_0 zo_3 zkX0_hasRider_0 16 rfl rfl
theorem dX0_hasRider_17 : decode cX0_hasRider 17 = .ok (.ireturn, 1) := zq_0 zo_172 zkX0_hasRider_0 17 rfl rfl
theorem zkX0_isStation_0 : zqc cX0_isStation 0 [42, 27, 182, 0, 73, 153, 0, 17, 42, 180, 0, 24, 27, 46, 2, 159, 0, 7, 4, 167, 0, 4, 3, 172] := zq_of 24 (by decide +kernel)
theorem dX0_isStation_0 : decode cX0_isStation 0 = .ok (.aload_n 0, 1) := zq_0 zo_42 zkX0_isStation_0 0 rfl rfl
theorem dX0_isStation_1 : decode cX0_isStation 1 = .ok (.iload_n 1, 1) := zq_0 zo_27 zkX0_isStation_0 1 rfl rfl
theorem dX0_isStation_2 : decode cX0_isStation 2 = .ok (.invokevirtual 73, 3) := zq_2 zo_182 zkX0_isStation_0 2 rfl rfl 0 73 rfl rfl _ rfl
theorem dX0_isStation_5 : decode cX0_isStation 5 = .ok (.ifCond .eq 17, 3) := zq_2s zo_153 zkX0_isStation_0 5 rfl rfl 0 17 rfl rfl _ (by decide +kernel)
theorem dX0_isStation_8 : decode cX0_isStation 8 = .ok (.aload_n 0, 1) := zq_0 zo_42 zkX0_isStation_0 8 rfl rfl
theorem dX0_isStation_9 : decode cX0_isStation 9 = .ok (.getfield 24, 3) := zq_2 zo_180 zkX0_isStation_0 9 rfl rfl 0 24 rfl rfl _ rfl
theorem dX0_isStation_12 : decode cX0_isStation 12 = .ok (.iload_n 1, 1) := zq_0 zo_27 zkX0_isStation_0 12 rfl rfl
theorem dX0_isStation_13 : decode cX0_isStation 13 = .ok (.iaload, 1) := zq_0 zo_46 zkX0_isStation_0 13 rfl rfl
theorem dX0_isStation_14 : decode cX0_isStation 14 = .ok (.iconst (-1), 1) := zq_0 zo_2 zkX0_isStation_0 14 rfl rfl
theorem dX0_isStation_15 : decode cX0_isStation 15 = .ok (.if_icmp .eq 7, 3) := zq_2s zo_159 zkX0_isStation_0 15 rfl rfl 0 7 rfl rfl _ (by decide +kernel)
theorem dX0_isStation_18 : decode cX0_isStation 18 = .ok (.iconst 1, 1) := zq_0 zo_4 zkX0_isStation_0 18 rfl rfl
theorem dX0_isStation_19 : decode cX0_isStation 19 = .ok (.goto 4, 3) := zq_2s zo_167 zkX0_isStation_0 19 rfl rfl 0 4 rfl rfl _ (by decide +kernel)
theorem dX0_isStation_22 : decode cX0_isStation 22 = .ok (.iconst 0, 1) := zq_0 zo_3 zkX0_isStation_0 22 rfl rfl
theorem dX0_isStation_23 : decode cX0_isStation 23 = .ok (.ireturn, 1) := zq_0 zo_172 zkX0_isStation_0 23 rfl rfl
theorem zkX0_carries_0 : zqc cX0_carries 0 [42, 180, 0, 27, 27, 46, 28, 163, 0, 17, 28, 42, 180, 0, 30, 27, 46, 162, 0, 7, 4, 167, 0, 4, 3, 172] := zq_of 26 (by decide +kernel)
theorem dX0_carries_0 : decode cX0_carries 0 = .ok (.aload_n 0, 1) := zq_0 zo_42 zkX0_carries_0 0 rfl rfl
theorem dX0_carries_1 : decode cX0_carries 1 = .ok (.getfield 27, 3) := zq_2 zo_180 zkX0_carries_0 1 rfl rfl 0 27 rfl rfl _ rfl
theorem dX0_carries_4 : decode cX0_carries 4 = .ok (.iload_n 1, 1) := zq_0 zo_27 zkX0_carries_0 4 rfl rfl
theorem dX0_carries_5 : decode cX0_carries 5 = .ok (.iaload, 1) := zq_0 zo_46 zkX0_carries_0 5 rfl rfl
theorem dX0_carries_6 : decode cX0_carries 6 = .ok (.iload_n 2, 1) := zq_0 zo_28 zkX0_carries_0 6 rfl rfl
theorem dX0_carries_7 : decode cX0_carries 7 = .ok (.if_icmp .gt 17, 3) := zq_2s zo_163 zkX0_carries_0 7 rfl rfl 0 17 rfl rfl _ (by decide +kernel)
theorem dX0_carries_10 : decode cX0_carries 10 = .ok (.iload_n 2, 1) := zq_0 zo_28 zkX0_carries_0 10 rfl rfl
theorem dX0_carries_11 : decode cX0_carries 11 = .ok (.aload_n 0, 1) := zq_0 zo_42 zkX0_carries_0 11 rfl rfl
theorem dX0_carries_12 : decode cX0_carries 12 = .ok (.getfield 30, 3) := zq_2 zo_180 zkX0_carries_0 12 rfl rfl 0 30 rfl rfl _ rfl
theorem dX0_carries_15 : decode cX0_carries 15 = .ok (.iload_n 1, 1) := zq_0 zo_27 zkX0_carries_0 15 rfl rfl
theorem dX0_carries_16 : decode cX0_carries 16 = .ok (.iaload, 1) := zq_0 zo_46 zkX0_carries_0 16 rfl rfl
theorem dX0_carries_17 : decode cX0_carries 17 = .ok (.if_icmp .ge 7, 3) := zq_2s zo_162 zkX0_carries_0 17 rfl rfl 0 7 rfl rfl _ (by decide +kernel)
theorem dX0_carries_20 : decode cX0_carries 20 = .ok (.iconst 1, 1) := zq_0 zo_4 zkX0_carries_0 20 rfl rfl
theorem dX0_carries_21 : decode cX0_carries 21 = .ok (.goto 4, 3) := zq_2s zo_167 zkX0_carries_0 21 rfl rfl 0 4 rfl rfl _ (by decide +kernel)
theorem dX0_carries_24 : decode cX0_carries 24 = .ok (.iconst 0, 1) := zq_0 zo_3 zkX0_carries_0 24 rfl rfl
theorem dX0_carries_25 : decode cX0_carries 25 = .ok (.ireturn, 1) := zq_0 zo_172 zkX0_carries_0 25 rfl rfl
theorem zkX0_riderSets_0 : zqc cX0_riderSets 0 [4, 42, 180, 0, 49, 120, 172] := zq_of 7 (by decide +kernel)
theorem dX0_riderSets_0 : decode cX0_riderSets 0 = .ok (.iconst 1, 1) := zq_0 zo_4 zkX0_riderSets_0 0 rfl rfl
theorem dX0_riderSets_1 : decode cX0_riderSets 1 = .ok (.aload_n 0, 1) := zq_0 zo_42 zkX0_riderSets_0 1 rfl rfl
theorem dX0_riderSets_2 : decode cX0_riderSets 2 = .ok (.getfield 49, 3) := zq_2 zo_180 zkX0_riderSets_0 2 rfl rfl 0 49 rfl rfl _ rfl
theorem dX0_riderSets_5 : decode cX0_riderSets 5 = .ok (.ishl, 1) := zq_0 zo_120 zkX0_riderSets_0 5 rfl rfl
theorem dX0_riderSets_6 : decode cX0_riderSets 6 = .ok (.ireturn, 1) := zq_0 zo_172 zkX0_riderSets_0 6 rfl rfl
theorem zkX0_stations_0 : zqc cX0_stations 0 [3, 60, 3, 61, 28, 42, 180, 0, 45, 162, 0, 29, 27, 42, 180, 0, 24, 28, 46, 2, 160, 0, 7, 3, 167, 0, 6, 4, 28, 120, 128, 60, 132, 2] := zq_of 34 (by decide +kernel)
theorem dX0_stations_0 : decode cX0_stations 0 = .ok (.iconst 0, 1) := zq_0 zo_3 zkX0_stations_0 0 rfl rfl
theorem dX0_stations_1 : decode cX0_stations 1 = .ok (.istore_n 1, 1) := zq_0 zo_60 zkX0_stations_0 1 rfl rfl
theorem dX0_stations_2 : decode cX0_stations 2 = .ok (.iconst 0, 1) := zq_0 zo_3 zkX0_stations_0 2 rfl rfl
theorem dX0_stations_3 : decode cX0_stations 3 = .ok (.istore_n 2, 1) := zq_0 zo_61 zkX0_stations_0 3 rfl rfl
theorem dX0_stations_4 : decode cX0_stations 4 = .ok (.iload_n 2, 1) := zq_0 zo_28 zkX0_stations_0 4 rfl rfl
theorem dX0_stations_5 : decode cX0_stations 5 = .ok (.aload_n 0, 1) := zq_0 zo_42 zkX0_stations_0 5 rfl rfl
theorem dX0_stations_6 : decode cX0_stations 6 = .ok (.getfield 45, 3) := zq_2 zo_180 zkX0_stations_0 6 rfl rfl 0 45 rfl rfl _ rfl
theorem dX0_stations_9 : decode cX0_stations 9 = .ok (.if_icmp .ge 29, 3) := zq_2s zo_162 zkX0_stations_0 9 rfl rfl 0 29 rfl rfl _ (by decide +kernel)
theorem dX0_stations_12 : decode cX0_stations 12 = .ok (.iload_n 1, 1) := zq_0 zo_27 zkX0_stations_0 12 rfl rfl
theorem dX0_stations_13 : decode cX0_stations 13 = .ok (.aload_n 0, 1) := zq_0 zo_42 zkX0_stations_0 13 rfl rfl
theorem dX0_stations_14 : decode cX0_stations 14 = .ok (.getfield 24, 3) := zq_2 zo_180 zkX0_stations_0 14 rfl rfl 0 24 rfl rfl _ rfl
theorem dX0_stations_17 : decode cX0_stations 17 = .ok (.iload_n 2, 1) := zq_0 zo_28 zkX0_stations_0 17 rfl rfl
theorem dX0_stations_18 : decode cX0_stations 18 = .ok (.iaload, 1) := zq_0 zo_46 zkX0_stations_0 18 rfl rfl
theorem dX0_stations_19 : decode cX0_stations 19 = .ok (.iconst (-1), 1) := zq_0 zo_2 zkX0_stations_0 19 rfl rfl
theorem dX0_stations_20 : decode cX0_stations 20 = .ok (.if_icmp .ne 7, 3) := zq_2s zo_160 zkX0_stations_0 20 rfl rfl 0 7 rfl rfl _ (by decide +kernel)
theorem dX0_stations_23 : decode cX0_stations 23 = .ok (.iconst 0, 1) := zq_0 zo_3 zkX0_stations_0 23 rfl rfl
theorem dX0_stations_24 : decode cX0_stations 24 = .ok (.goto 6, 3) := zq_2s zo_167 zkX0_stations_0 24 rfl rfl 0 6 rfl rfl _ (by decide +kernel)
theorem dX0_stations_27 : decode cX0_stations 27 = .ok (.iconst 1, 1) := zq_0 zo_4 zkX0_stations_0 27 rfl rfl
theorem dX0_stations_28 : decode cX0_stations 28 = .ok (.iload_n 2, 1) := zq_0 zo_28 zkX0_stations_0 28 rfl rfl
theorem dX0_stations_29 : decode cX0_stations 29 = .ok (.ishl, 1) := zq_0 zo_120 zkX0_stations_0 29 rfl rfl
theorem dX0_stations_30 : decode cX0_stations 30 = .ok (.ior, 1) := zq_0 zo_128 zkX0_stations_0 30 rfl rfl
theorem dX0_stations_31 : decode cX0_stations 31 = .ok (.istore_n 1, 1) := zq_0 zo_60 zkX0_stations_0 31 rfl rfl
theorem zkX0_stations_32 : zqc cX0_stations 32 [132, 2, 1, 167, 255, 225, 27, 172] := zq_of 8 (by decide +kernel)
theorem dX0_stations_32 : decode cX0_stations 32 = .ok (.iinc 2 1, 3) := zq_ii zo_132 zkX0_stations_32 0 rfl rfl 2 1 rfl rfl _ (by decide +kernel)
theorem dX0_stations_35 : decode cX0_stations 35 = .ok (.goto (-31), 3) := zq_2s zo_167 zkX0_stations_32 3 rfl rfl 255 225 rfl rfl _ (by decide +kernel)
theorem dX0_stations_38 : decode cX0_stations 38 = .ok (.iload_n 1, 1) := zq_0 zo_27 zkX0_stations_32 6 rfl rfl
theorem dX0_stations_39 : decode cX0_stations 39 = .ok (.ireturn, 1) := zq_0 zo_172 zkX0_stations_32 7 rfl rfl
theorem zkX0_stationBehind_0 : zqc cX0_stationBehind 0 [27, 4, 96, 61, 28, 42, 180, 0, 45, 162, 0, 21, 42, 180, 0, 24, 28, 46, 2, 159, 0, 5, 28, 172, 132, 2, 1, 167, 255, 233, 2, 172] := zq_of 32 (by decide +kernel)
theorem dX0_stationBehind_0 : decode cX0_stationBehind 0 = .ok (.iload_n 1, 1) := zq_0 zo_27 zkX0_stationBehind_0 0 rfl rfl
theorem dX0_stationBehind_1 : decode cX0_stationBehind 1 = .ok (.iconst 1, 1) := zq_0 zo_4 zkX0_stationBehind_0 1 rfl rfl
theorem dX0_stationBehind_2 : decode cX0_stationBehind 2 = .ok (.iadd, 1) := zq_0 zo_96 zkX0_stationBehind_0 2 rfl rfl
theorem dX0_stationBehind_3 : decode cX0_stationBehind 3 = .ok (.istore_n 2, 1) := zq_0 zo_61 zkX0_stationBehind_0 3 rfl rfl
theorem dX0_stationBehind_4 : decode cX0_stationBehind 4 = .ok (.iload_n 2, 1) := zq_0 zo_28 zkX0_stationBehind_0 4 rfl rfl
theorem dX0_stationBehind_5 : decode cX0_stationBehind 5 = .ok (.aload_n 0, 1) := zq_0 zo_42 zkX0_stationBehind_0 5 rfl rfl
theorem dX0_stationBehind_6 : decode cX0_stationBehind 6 = .ok (.getfield 45, 3) := zq_2 zo_180 zkX0_stationBehind_0 6 rfl rfl 0 45 rfl rfl _ rfl
theorem dX0_stationBehind_9 : decode cX0_stationBehind 9 = .ok (.if_icmp .ge 21, 3) := zq_2s zo_162 zkX0_stationBehind_0 9 rfl rfl 0 21 rfl rfl _ (by decide +kernel)
theorem dX0_stationBehind_12 : decode cX0_stationBehind 12 = .ok (.aload_n 0, 1) := zq_0 zo_42 zkX0_stationBehind_0 12 rfl rfl
theorem dX0_stationBehind_13 : decode cX0_stationBehind 13 = .ok (.getfield 24, 3) := zq_2 zo_180 zkX0_stationBehind_0 13 rfl rfl 0 24 rfl rfl _ rfl
theorem dX0_stationBehind_16 : decode cX0_stationBehind 16 = .ok (.iload_n 2, 1) := zq_0 zo_28 zkX0_stationBehind_0 16 rfl rfl
theorem dX0_stationBehind_17 : decode cX0_stationBehind 17 = .ok (.iaload, 1) := zq_0 zo_46 zkX0_stationBehind_0 17 rfl rfl
theorem dX0_stationBehind_18 : decode cX0_stationBehind 18 = .ok (.iconst (-1), 1) := zq_0 zo_2 zkX0_stationBehind_0 18 rfl rfl
theorem dX0_stationBehind_19 : decode cX0_stationBehind 19 = .ok (.if_icmp .eq 5, 3) := zq_2s zo_159 zkX0_stationBehind_0 19 rfl rfl 0 5 rfl rfl _ (by decide +kernel)
theorem dX0_stationBehind_22 : decode cX0_stationBehind 22 = .ok (.iload_n 2, 1) := zq_0 zo_28 zkX0_stationBehind_0 22 rfl rfl
theorem dX0_stationBehind_23 : decode cX0_stationBehind 23 = .ok (.ireturn, 1) := zq_0 zo_172 zkX0_stationBehind_0 23 rfl rfl
theorem dX0_stationBehind_24 : decode cX0_stationBehind 24 = .ok (.iinc 2 1, 3) := zq_ii zo_132 zkX0_stationBehind_0 24 rfl rfl 2 1 rfl rfl _ (by decide +kernel)
theorem dX0_stationBehind_27 : decode cX0_stationBehind 27 = .ok (.goto (-23), 3) := zq_2s zo_167 zkX0_stationBehind_0 27 rfl rfl 255 233 rfl rfl _ (by decide +kernel)
theorem dX0_stationBehind_30 : decode cX0_stationBehind 30 = .ok (.iconst (-1), 1) := zq_0 zo_2 zkX0_stationBehind_0 30 rfl rfl
theorem dX0_stationBehind_31 : decode cX0_stationBehind 31 = .ok (.ireturn, 1) := zq_0 zo_172 zkX0_stationBehind_0 31 rfl rfl
theorem zkX0_cost_0 : zqc cX0_cost 0 [42, 180, 0, 52, 5, 42, 180, 0, 15, 27, 46, 104, 96, 61, 42, 180, 0, 15, 27, 46, 6, 160, 0, 20, 27, 158, 0, 16, 28, 5, 42, 180, 0, 9] := zq_of 34 (by decide +kernel)
theorem dX0_cost_0 : decode cX0_cost 0 = .ok (.aload_n 0, 1) := zq_0 zo_42 zkX0_cost_0 0 rfl rfl
theorem dX0_cost_1 : decode cX0_cost 1 = .ok (.getfield 52, 3) := zq_2 zo_180 zkX0_cost_0 1 rfl rfl 0 52 rfl rfl _ rfl
theorem dX0_cost_4 : decode cX0_cost 4 = .ok (.iconst 2, 1) := zq_0 zo_5 zkX0_cost_0 4 rfl rfl
theorem dX0_cost_5 : decode cX0_cost 5 = .ok (.aload_n 0, 1) := zq_0 zo_42 zkX0_cost_0 5 rfl rfl
theorem dX0_cost_6 : decode cX0_cost 6 = .ok (.getfield 15, 3) := zq_2 zo_180 zkX0_cost_0 6 rfl rfl 0 15 rfl rfl _ rfl
theorem dX0_cost_9 : decode cX0_cost 9 = .ok (.iload_n 1, 1) := zq_0 zo_27 zkX0_cost_0 9 rfl rfl
theorem dX0_cost_10 : decode cX0_cost 10 = .ok (.iaload, 1) := zq_0 zo_46 zkX0_cost_0 10 rfl rfl
theorem dX0_cost_11 : decode cX0_cost 11 = .ok (.imul, 1) := zq_0 zo_104 zkX0_cost_0 11 rfl rfl
theorem dX0_cost_12 : decode cX0_cost 12 = .ok (.iadd, 1) := zq_0 zo_96 zkX0_cost_0 12 rfl rfl
theorem dX0_cost_13 : decode cX0_cost 13 = .ok (.istore_n 2, 1) := zq_0 zo_61 zkX0_cost_0 13 rfl rfl
theorem dX0_cost_14 : decode cX0_cost 14 = .ok (.aload_n 0, 1) := zq_0 zo_42 zkX0_cost_0 14 rfl rfl
theorem dX0_cost_15 : decode cX0_cost 15 = .ok (.getfield 15, 3) := zq_2 zo_180 zkX0_cost_0 15 rfl rfl 0 15 rfl rfl _ rfl
theorem dX0_cost_18 : decode cX0_cost 18 = .ok (.iload_n 1, 1) := zq_0 zo_27 zkX0_cost_0 18 rfl rfl
theorem dX0_cost_19 : decode cX0_cost 19 = .ok (.iaload, 1) := zq_0 zo_46 zkX0_cost_0 19 rfl rfl
theorem dX0_cost_20 : decode cX0_cost 20 = .ok (.iconst 3, 1) := zq_0 zo_6 zkX0_cost_0 20 rfl rfl
theorem dX0_cost_21 : decode cX0_cost 21 = .ok (.if_icmp .ne 20, 3) := zq_2s zo_160 zkX0_cost_0 21 rfl rfl 0 20 rfl rfl _ (by decide +kernel)
theorem dX0_cost_24 : decode cX0_cost 24 = .ok (.iload_n 1, 1) := zq_0 zo_27 zkX0_cost_0 24 rfl rfl
theorem dX0_cost_25 : decode cX0_cost 25 = .ok (.ifCond .le 16, 3) := zq_2s zo_158 zkX0_cost_0 25 rfl rfl 0 16 rfl rfl _ (by decide +kernel)
theorem dX0_cost_28 : decode cX0_cost 28 = .ok (.iload_n 2, 1) := zq_0 zo_28 zkX0_cost_0 28 rfl rfl
theorem dX0_cost_29 : decode cX0_cost 29 = .ok (.iconst 2, 1) := zq_0 zo_5 zkX0_cost_0 29 rfl rfl
theorem dX0_cost_30 : decode cX0_cost 30 = .ok (.aload_n 0, 1) := zq_0 zo_42 zkX0_cost_0 30 rfl rfl
theorem dX0_cost_31 : decode cX0_cost 31 = .ok (.getfield 9, 3) := zq_2 zo_180 zkX0_cost_0 31 rfl rfl 0 9 rfl rfl _ rfl
theorem zkX0_cost_32 : zqc cX0_cost 32 [0, 9, 27, 4, 100, 46, 104, 96, 61, 28, 172] := zq_of 11 (by decide +kernel)
theorem dX0_cost_34 : decode cX0_cost 34 = .ok (.iload_n 1, 1) := zq_0 zo_27 zkX0_cost_32 2 rfl rfl
theorem dX0_cost_35 : decode cX0_cost 35 = .ok (.iconst 1, 1) := zq_0 zo_4 zkX0_cost_32 3 rfl rfl
theorem dX0_cost_36 : decode cX0_cost 36 = .ok (.isub, 1) := zq_0 zo_100 zkX0_cost_32 4 rfl rfl
theorem dX0_cost_37 : decode cX0_cost 37 = .ok (.iaload, 1) := zq_0 zo_46 zkX0_cost_32 5 rfl rfl
theorem dX0_cost_38 : decode cX0_cost 38 = .ok (.imul, 1) := zq_0 zo_104 zkX0_cost_32 6 rfl rfl
theorem dX0_cost_39 : decode cX0_cost 39 = .ok (.iadd, 1) := zq_0 zo_96 zkX0_cost_32 7 rfl rfl
theorem dX0_cost_40 : decode cX0_cost 40 = .ok (.istore_n 2, 1) := zq_0 zo_61 zkX0_cost_32 8 rfl rfl
theorem dX0_cost_41 : decode cX0_cost 41 = .ok (.iload_n 2, 1) := zq_0 zo_28 zkX0_cost_32 9 rfl rfl
theorem dX0_cost_42 : decode cX0_cost 42 = .ok (.ireturn, 1) := zq_0 zo_172 zkX0_cost_32 10 rfl rfl
theorem zkX0_poundsIn_0 : zqc cX0_poundsIn 0 [3, 42, 180, 0, 18, 27, 46, 42, 180, 0, 55, 28, 104, 100, 184, 0, 77, 172] := zq_of 18 (by decide +kernel)
theorem dX0_poundsIn_0 : decode cX0_poundsIn 0 = .ok (.iconst 0, 1) := zq_0 zo_3 zkX0_poundsIn_0 0 rfl rfl
theorem dX0_poundsIn_1 : decode cX0_poundsIn 1 = .ok (.aload_n 0, 1) := zq_0 zo_42 zkX0_poundsIn_0 1 rfl rfl
theorem dX0_poundsIn_2 : decode cX0_poundsIn 2 = .ok (.getfield 18, 3) := zq_2 zo_180 zkX0_poundsIn_0 2 rfl rfl 0 18 rfl rfl _ rfl
theorem dX0_poundsIn_5 : decode cX0_poundsIn 5 = .ok (.iload_n 1, 1) := zq_0 zo_27 zkX0_poundsIn_0 5 rfl rfl
theorem dX0_poundsIn_6 : decode cX0_poundsIn 6 = .ok (.iaload, 1) := zq_0 zo_46 zkX0_poundsIn_0 6 rfl rfl
theorem dX0_poundsIn_7 : decode cX0_poundsIn 7 = .ok (.aload_n 0, 1) := zq_0 zo_42 zkX0_poundsIn_0 7 rfl rfl
theorem dX0_poundsIn_8 : decode cX0_poundsIn 8 = .ok (.getfield 55, 3) := zq_2 zo_180 zkX0_poundsIn_0 8 rfl rfl 0 55 rfl rfl _ rfl
theorem dX0_poundsIn_11 : decode cX0_poundsIn 11 = .ok (.iload_n 2, 1) := zq_0 zo_28 zkX0_poundsIn_0 11 rfl rfl
theorem dX0_poundsIn_12 : decode cX0_poundsIn 12 = .ok (.imul, 1) := zq_0 zo_104 zkX0_poundsIn_0 12 rfl rfl
theorem dX0_poundsIn_13 : decode cX0_poundsIn 13 = .ok (.isub, 1) := zq_0 zo_100 zkX0_poundsIn_0 13 rfl rfl
theorem dX0_poundsIn_14 : decode cX0_poundsIn 14 = .ok (.invokestatic 77, 3) := zq_2 zo_184 zkX0_poundsIn_0 14 rfl rfl 0 77 rfl rfl _ rfl
theorem dX0_poundsIn_17 : decode cX0_poundsIn 17 = .ok (.ireturn, 1) := zq_0 zo_172 zkX0_poundsIn_0 17 rfl rfl
theorem zkX0_minutesTo_0 : zqc cX0_minutesTo 0 [3, 61, 3, 62, 29, 27, 162, 0, 18, 28, 42, 180, 0, 9, 29, 46, 96, 61, 132, 3, 1, 167, 255, 239, 28, 172] := zq_of 26 (by decide +kernel)
theorem dX0_minutesTo_0 : decode cX0_minutesTo 0 = .ok (.iconst 0, 1) := zq_0 zo_3 zkX0_minutesTo_0 0 rfl rfl
theorem dX0_minutesTo_1 : decode cX0_minutesTo 1 = .ok (.istore_n 2, 1) := zq_0 zo_61 zkX0_minutesTo_0 1 rfl rfl
theorem dX0_minutesTo_2 : decode cX0_minutesTo 2 = .ok (.iconst 0, 1) := zq_0 zo_3 zkX0_minutesTo_0 2 rfl rfl
theorem dX0_minutesTo_3 : decode cX0_minutesTo 3 = .ok (.istore_n 3, 1) := zq_0 zo_62 zkX0_minutesTo_0 3 rfl rfl
theorem dX0_minutesTo_4 : decode cX0_minutesTo 4 = .ok (.iload_n 3, 1) := zq_0 zo_29 zkX0_minutesTo_0 4 rfl rfl
theorem dX0_minutesTo_5 : decode cX0_minutesTo 5 = .ok (.iload_n 1, 1) := zq_0 zo_27 zkX0_minutesTo_0 5 rfl rfl
theorem dX0_minutesTo_6 : decode cX0_minutesTo 6 = .ok (.if_icmp .ge 18, 3) := zq_2s zo_162 zkX0_minutesTo_0 6 rfl rfl 0 18 rfl rfl _ (by decide +kernel)
theorem dX0_minutesTo_9 : decode cX0_minutesTo 9 = .ok (.iload_n 2, 1) := zq_0 zo_28 zkX0_minutesTo_0 9 rfl rfl
theorem dX0_minutesTo_10 : decode cX0_minutesTo 10 = .ok (.aload_n 0, 1) := zq_0 zo_42 zkX0_minutesTo_0 10 rfl rfl
theorem dX0_minutesTo_11 : decode cX0_minutesTo 11 = .ok (.getfield 9, 3) := zq_2 zo_180 zkX0_minutesTo_0 11 rfl rfl 0 9 rfl rfl _ rfl
theorem dX0_minutesTo_14 : decode cX0_minutesTo 14 = .ok (.iload_n 3, 1) := zq_0 zo_29 zkX0_minutesTo_0 14 rfl rfl
theorem dX0_minutesTo_15 : decode cX0_minutesTo 15 = .ok (.iaload, 1) := zq_0 zo_46 zkX0_minutesTo_0 15 rfl rfl
theorem dX0_minutesTo_16 : decode cX0_minutesTo 16 = .ok (.iadd, 1) := zq_0 zo_96 zkX0_minutesTo_0 16 rfl rfl
theorem dX0_minutesTo_17 : decode cX0_minutesTo 17 = .ok (.istore_n 2, 1) := zq_0 zo_61 zkX0_minutesTo_0 17 rfl rfl
theorem dX0_minutesTo_18 : decode cX0_minutesTo 18 = .ok (.iinc 3 1, 3) := zq_ii zo_132 zkX0_minutesTo_0 18 rfl rfl 3 1 rfl rfl _ (by decide +kernel)
theorem dX0_minutesTo_21 : decode cX0_minutesTo 21 = .ok (.goto (-17), 3) := zq_2s zo_167 zkX0_minutesTo_0 21 rfl rfl 255 239 rfl rfl _ (by decide +kernel)
theorem dX0_minutesTo_24 : decode cX0_minutesTo 24 = .ok (.iload_n 2, 1) := zq_0 zo_28 zkX0_minutesTo_0 24 rfl rfl
theorem dX0_minutesTo_25 : decode cX0_minutesTo 25 = .ok (.ireturn, 1) := zq_0 zo_172 zkX0_minutesTo_0 25 rfl rfl
theorem zkX0_costsBefore_0 : zqc cX0_costsBefore 0 [3, 62, 3, 54, 4, 21, 4, 27, 162, 0, 27, 28, 21, 4, 122, 4, 126, 153, 0, 12, 29, 42, 21, 4, 182, 0, 83, 96, 62, 132, 4, 1, 167, 255] := zq_of 34 (by decide +kernel)
theorem dX0_costsBefore_0 : decode cX0_costsBefore 0 = .ok (.iconst 0, 1) := zq_0 zo_3 zkX0_costsBefore_0 0 rfl rfl
theorem dX0_costsBefore_1 : decode cX0_costsBefore 1 = .ok (.istore_n 3, 1) := zq_0 zo_62 zkX0_costsBefore_0 1 rfl rfl
theorem dX0_costsBefore_2 : decode cX0_costsBefore 2 = .ok (.iconst 0, 1) := zq_0 zo_3 zkX0_costsBefore_0 2 rfl rfl
theorem dX0_costsBefore_3 : decode cX0_costsBefore 3 = .ok (.istore 4, 2) := zq_1 zo_54 zkX0_costsBefore_0 3 rfl rfl 4 rfl
theorem dX0_costsBefore_5 : decode cX0_costsBefore 5 = .ok (.iload 4, 2) := zq_1 zo_21 zkX0_costsBefore_0 5 rfl rfl 4 rfl
theorem dX0_costsBefore_7 : decode cX0_costsBefore 7 = .ok (.iload_n 1, 1) := zq_0 zo_27 zkX0_costsBefore_0 7 rfl rfl
theorem dX0_costsBefore_8 : decode cX0_costsBefore 8 = .ok (.if_icmp .ge 27, 3) := zq_2s zo_162 zkX0_costsBefore_0 8 rfl rfl 0 27 rfl rfl _ (by decide +kernel)
theorem dX0_costsBefore_11 : decode cX0_costsBefore 11 = .ok (.iload_n 2, 1) := zq_0 zo_28 zkX0_costsBefore_0 11 rfl rfl
theorem dX0_costsBefore_12 : decode cX0_costsBefore 12 = .ok (.iload 4, 2) := zq_1 zo_21 zkX0_costsBefore_0 12 rfl rfl 4 rfl
theorem dX0_costsBefore_14 : decode cX0_costsBefore 14 = .ok (.ishr, 1) := zq_0 zo_122 zkX0_costsBefore_0 14 rfl rfl
theorem dX0_costsBefore_15 : decode cX0_costsBefore 15 = .ok (.iconst 1, 1) := zq_0 zo_4 zkX0_costsBefore_0 15 rfl rfl
theorem dX0_costsBefore_16 : decode cX0_costsBefore 16 = .ok (.iand, 1) := zq_0 zo_126 zkX0_costsBefore_0 16 rfl rfl
theorem dX0_costsBefore_17 : decode cX0_costsBefore 17 = .ok (.ifCond .eq 12, 3) := zq_2s zo_153 zkX0_costsBefore_0 17 rfl rfl 0 12 rfl rfl _ (by decide +kernel)
theorem dX0_costsBefore_20 : decode cX0_costsBefore 20 = .ok (.iload_n 3, 1) := zq_0 zo_29 zkX0_costsBefore_0 20 rfl rfl
theorem dX0_costsBefore_21 : decode cX0_costsBefore 21 = .ok (.aload_n 0, 1) := zq_0 zo_42 zkX0_costsBefore_0 21 rfl rfl
theorem dX0_costsBefore_22 : decode cX0_costsBefore 22 = .ok (.iload 4, 2) := zq_1 zo_21 zkX0_costsBefore_0 22 rfl rfl 4 rfl
theorem dX0_costsBefore_24 : decode cX0_costsBefore 24 = .ok (.invokevirtual 83, 3) := zq_2 zo_182 zkX0_costsBefore_0 24 rfl rfl 0 83 rfl rfl _ rfl
theorem dX0_costsBefore_27 : decode cX0_costsBefore 27 = .ok (.iadd, 1) := zq_0 zo_96 zkX0_costsBefore_0 27 rfl rfl
theorem dX0_costsBefore_28 : decode cX0_costsBefore 28 = .ok (.istore_n 3, 1) := zq_0 zo_62 zkX0_costsBefore_0 28 rfl rfl
theorem dX0_costsBefore_29 : decode cX0_costsBefore 29 = .ok (.iinc 4 1, 3) := zq_ii zo_132 zkX0_costsBefore_0 29 rfl rfl 4 1 rfl rfl _ (by decide +kernel)
theorem zkX0_costsBefore_32 : zqc cX0_costsBefore 32 [167, 255, 229, 29, 172] := zq_of 5 (by decide +kernel)
theorem dX0_costsBefore_32 : decode cX0_costsBefore 32 = .ok (.goto (-27), 3) := zq_2s zo_167 zkX0_costsBefore_32 0 rfl rfl 255 229 rfl rfl _ (by decide +kernel)
theorem dX0_costsBefore_35 : decode cX0_costsBefore 35 = .ok (.iload_n 3, 1) := zq_0 zo_29 zkX0_costsBefore_32 3 rfl rfl
theorem dX0_costsBefore_36 : decode cX0_costsBefore 36 = .ok (.ireturn, 1) := zq_0 zo_172 zkX0_costsBefore_32 4 rfl rfl
theorem zkX1_init_0 : zqc cX1_init 0 [42, 183, 0, 3, 42, 16, 16, 188, 10, 181, 0, 9, 42, 16, 16, 188, 10, 181, 0, 15, 177] := zq_of 21 (by decide +kernel)
theorem dX1_init_0 : decode cX1_init 0 = .ok (.aload_n 0, 1) := zq_0 zo_42 zkX1_init_0 0 rfl rfl
theorem dX1_init_1 : decode cX1_init 1 = .ok (.invokespecial 3, 3) := zq_2 zo_183 zkX1_init_0 1 rfl rfl 0 3 rfl rfl _ rfl
theorem dX1_init_4 : decode cX1_init 4 = .ok (.aload_n 0, 1) := zq_0 zo_42 zkX1_init_0 4 rfl rfl
theorem dX1_init_5 : decode cX1_init 5 = .ok (.bipush 16, 2) := zq_1s zo_16 zkX1_init_0 5 rfl rfl 16 rfl _ (by decide +kernel)
theorem dX1_init_7 : decode cX1_init 7 = .ok (.newarray .int, 2) := by decide +kernel
theorem dX1_init_9 : decode cX1_init 9 = .ok (.putfield 9, 3) := zq_2 zo_181 zkX1_init_0 9 rfl rfl 0 9 rfl rfl _ rfl
theorem dX1_init_12 : decode cX1_init 12 = .ok (.aload_n 0, 1) := zq_0 zo_42 zkX1_init_0 12 rfl rfl
theorem dX1_init_13 : decode cX1_init 13 = .ok (.bipush 16, 2) := zq_1s zo_16 zkX1_init_0 13 rfl rfl 16 rfl _ (by decide +kernel)
theorem dX1_init_15 : decode cX1_init 15 = .ok (.newarray .int, 2) := by decide +kernel
theorem dX1_init_17 : decode cX1_init 17 = .ok (.putfield 15, 3) := zq_2 zo_181 zkX1_init_0 17 rfl rfl 0 15 rfl rfl _ rfl
theorem dX1_init_20 : decode cX1_init 20 = .ok (.return_, 1) := zq_0 zo_177 zkX1_init_0 20 rfl rfl
theorem zkX1_follow_0 : zqc cX1_follow 0 [3, 62, 43, 180, 0, 18, 43, 43, 180, 0, 24, 4, 100, 182, 0, 27, 96, 54, 4, 42, 3, 181, 0, 31, 42, 2, 181, 0, 34, 3, 54, 5, 21, 5] := zq_of 34 (by decide +kernel)
theorem dX1_follow_0 : decode cX1_follow 0 = .ok (.iconst 0, 1) := zq_0 zo_3 zkX1_follow_0 0 rfl rfl
theorem dX1_follow_1 : decode cX1_follow 1 = .ok (.istore_n 3, 1) := zq_0 zo_62 zkX1_follow_0 1 rfl rfl
theorem dX1_follow_2 : decode cX1_follow 2 = .ok (.aload_n 1, 1) := zq_0 zo_43 zkX1_follow_0 2 rfl rfl
theorem dX1_follow_3 : decode cX1_follow 3 = .ok (.getfield 18, 3) := zq_2 zo_180 zkX1_follow_0 3 rfl rfl 0 18 rfl rfl _ rfl
theorem dX1_follow_6 : decode cX1_follow 6 = .ok (.aload_n 1, 1) := zq_0 zo_43 zkX1_follow_0 6 rfl rfl
theorem dX1_follow_7 : decode cX1_follow 7 = .ok (.aload_n 1, 1) := zq_0 zo_43 zkX1_follow_0 7 rfl rfl
theorem dX1_follow_8 : decode cX1_follow 8 = .ok (.getfield 24, 3) := zq_2 zo_180 zkX1_follow_0 8 rfl rfl 0 24 rfl rfl _ rfl
theorem dX1_follow_11 : decode cX1_follow 11 = .ok (.iconst 1, 1) := zq_0 zo_4 zkX1_follow_0 11 rfl rfl
theorem dX1_follow_12 : decode cX1_follow 12 = .ok (.isub, 1) := zq_0 zo_100 zkX1_follow_0 12 rfl rfl
theorem dX1_follow_13 : decode cX1_follow 13 = .ok (.invokevirtual 27, 3) := zq_2 zo_182 zkX1_follow_0 13 rfl rfl 0 27 rfl rfl _ rfl
theorem dX1_follow_16 : decode cX1_follow 16 = .ok (.iadd, 1) := zq_0 zo_96 zkX1_follow_0 16 rfl rfl
theorem dX1_follow_17 : decode cX1_follow 17 = .ok (.istore 4, 2) := zq_1 zo_54 zkX1_follow_0 17 rfl rfl 4 rfl
theorem dX1_follow_19 : decode cX1_follow 19 = .ok (.aload_n 0, 1) := zq_0 zo_42 zkX1_follow_0 19 rfl rfl
theorem dX1_follow_20 : decode cX1_follow 20 = .ok (.iconst 0, 1) := zq_0 zo_3 zkX1_follow_0 20 rfl rfl
theorem dX1_follow_21 : decode cX1_follow 21 = .ok (.putfield 31, 3) := zq_2 zo_181 zkX1_follow_0 21 rfl rfl 0 31 rfl rfl _ rfl
theorem dX1_follow_24 : decode cX1_follow 24 = .ok (.aload_n 0, 1) := zq_0 zo_42 zkX1_follow_0 24 rfl rfl
theorem dX1_follow_25 : decode cX1_follow 25 = .ok (.iconst (-1), 1) := zq_0 zo_2 zkX1_follow_0 25 rfl rfl
theorem dX1_follow_26 : decode cX1_follow 26 = .ok (.putfield 34, 3) := zq_2 zo_181 zkX1_follow_0 26 rfl rfl 0 34 rfl rfl _ rfl
theorem dX1_follow_29 : decode cX1_follow 29 = .ok (.iconst 0, 1) := zq_0 zo_3 zkX1_follow_0 29 rfl rfl
theorem dX1_follow_30 : decode cX1_follow 30 = .ok (.istore 5, 2) := zq_1 zo_54 zkX1_follow_0 30 rfl rfl 5 rfl
theorem zkX1_follow_32 : zqc cX1_follow 32 [21, 5, 43, 180, 0, 24, 162, 0, 150, 29, 28, 21, 5, 122, 4, 126, 153, 0, 12, 43, 21, 5, 182, 0, 37, 167, 0, 4, 3, 96, 54, 6, 42, 180] := zq_of 34 (by decide +kernel)
theorem dX1_follow_32 : decode cX1_follow 32 = .ok (.iload 5, 2) := zq_1 zo_21 zkX1_follow_32 0 rfl rfl 5 rfl
theorem dX1_follow_34 : decode cX1_follow 34 = .ok (.aload_n 1, 1) := zq_0 zo_43 zkX1_follow_32 2 rfl rfl
theorem dX1_follow_35 : decode cX1_follow 35 = .ok (.getfield 24, 3) := zq_2 zo_180 zkX1_follow_32 3 rfl rfl 0 24 rfl rfl _ rfl
theorem dX1_follow_38 : decode cX1_follow 38 = .ok (.if_icmp .ge 150, 3) := zq_2s zo_162 zkX1_follow_32 6 rfl rfl 0 150 rfl rfl _ (by decide +kernel)
theorem dX1_follow_41 : decode cX1_follow 41 = .ok (.iload_n 3, 1) := zq_0 zo_29 zkX1_follow_32 9 rfl rfl
theorem dX1_follow_42 : decode cX1_follow 42 = .ok (.iload_n 2, 1) := zq_0 zo_28 zkX1_follow_32 10 rfl rfl
theorem dX1_follow_43 : decode cX1_follow 43 = .ok (.iload 5, 2) := zq_1 zo_21 zkX1_follow_32 11 rfl rfl 5 rfl
theorem dX1_follow_45 : decode cX1_follow 45 = .ok (.ishr, 1) := zq_0 zo_122 zkX1_follow_32 13 rfl rfl
theorem dX1_follow_46 : decode cX1_follow 46 = .ok (.iconst 1, 1) := zq_0 zo_4 zkX1_follow_32 14 rfl rfl
theorem dX1_follow_47 : decode cX1_follow 47 = .ok (.iand, 1) := zq_0 zo_126 zkX1_follow_32 15 rfl rfl
theorem dX1_follow_48 : decode cX1_follow 48 = .ok (.ifCond .eq 12, 3) := zq_2s zo_153 zkX1_follow_32 16 rfl rfl 0 12 rfl rfl _ (by decide +kernel)
theorem dX1_follow_51 : decode cX1_follow 51 = .ok (.aload_n 1, 1) := zq_0 zo_43 zkX1_follow_32 19 rfl rfl
theorem dX1_follow_52 : decode cX1_follow 52 = .ok (.iload 5, 2) := zq_1 zo_21 zkX1_follow_32 20 rfl rfl 5 rfl
theorem dX1_follow_54 : decode cX1_follow 54 = .ok (.invokevirtual 37, 3) := zq_2 zo_182 zkX1_follow_32 22 rfl rfl 0 37 rfl rfl _ rfl
theorem dX1_follow_57 : decode cX1_follow 57 = .ok (.goto 4, 3) := zq_2s zo_167 zkX1_follow_32 25 rfl rfl 0 4 rfl rfl _ (by decide +kernel)
theorem dX1_follow_60 : decode cX1_follow 60 = .ok (.iconst 0, 1) := zq_0 zo_3 zkX1_follow_32 28 rfl rfl
theorem dX1_follow_61 : decode cX1_follow 61 = .ok (.iadd, 1) := zq_0 zo_96 zkX1_follow_32 29 rfl rfl
theorem dX1_follow_62 : decode cX1_follow 62 = .ok (.istore 6, 2) := zq_1 zo_54 zkX1_follow_32 30 rfl rfl 6 rfl
theorem zkX1_follow_64 : zqc cX1_follow 64 [42, 180, 0, 9, 21, 5, 29, 79, 42, 180, 0, 15, 21, 5, 43, 21, 5, 21, 6, 21, 4, 184, 0, 40, 79, 42, 89, 180, 0, 31, 42, 180, 0, 15] := zq_of 34 (by decide +kernel)
theorem dX1_follow_64 : decode cX1_follow 64 = .ok (.aload_n 0, 1) := zq_0 zo_42 zkX1_follow_64 0 rfl rfl
theorem dX1_follow_65 : decode cX1_follow 65 = .ok (.getfield 9, 3) := zq_2 zo_180 zkX1_follow_64 1 rfl rfl 0 9 rfl rfl _ rfl
theorem dX1_follow_68 : decode cX1_follow 68 = .ok (.iload 5, 2) := zq_1 zo_21 zkX1_follow_64 4 rfl rfl 5 rfl
theorem dX1_follow_70 : decode cX1_follow 70 = .ok (.iload_n 3, 1) := zq_0 zo_29 zkX1_follow_64 6 rfl rfl
theorem dX1_follow_71 : decode cX1_follow 71 = .ok (.iastore, 1) := zq_0 zo_79 zkX1_follow_64 7 rfl rfl
theorem dX1_follow_72 : decode cX1_follow 72 = .ok (.aload_n 0, 1) := zq_0 zo_42 zkX1_follow_64 8 rfl rfl
theorem dX1_follow_73 : decode cX1_follow 73 = .ok (.getfield 15, 3) := zq_2 zo_180 zkX1_follow_64 9 rfl rfl 0 15 rfl rfl _ rfl
theorem dX1_follow_76 : decode cX1_follow 76 = .ok (.iload 5, 2) := zq_1 zo_21 zkX1_follow_64 12 rfl rfl 5 rfl
theorem dX1_follow_78 : decode cX1_follow 78 = .ok (.aload_n 1, 1) := zq_0 zo_43 zkX1_follow_64 14 rfl rfl
theorem dX1_follow_79 : decode cX1_follow 79 = .ok (.iload 5, 2) := zq_1 zo_21 zkX1_follow_64 15 rfl rfl 5 rfl
theorem dX1_follow_81 : decode cX1_follow 81 = .ok (.iload 6, 2) := zq_1 zo_21 zkX1_follow_64 17 rfl rfl 6 rfl
theorem dX1_follow_83 : decode cX1_follow 83 = .ok (.iload 4, 2) := zq_1 zo_21 zkX1_follow_64 19 rfl rfl 4 rfl
theorem dX1_follow_85 : decode cX1_follow 85 = .ok (.invokestatic 40, 3) := zq_2 zo_184 zkX1_follow_64 21 rfl rfl 0 40 rfl rfl _ rfl
theorem dX1_follow_88 : decode cX1_follow 88 = .ok (.iastore, 1) := zq_0 zo_79 zkX1_follow_64 24 rfl rfl
theorem dX1_follow_89 : decode cX1_follow 89 = .ok (.aload_n 0, 1) := zq_0 zo_42 zkX1_follow_64 25 rfl rfl
theorem dX1_follow_90 : decode cX1_follow 90 = .ok (.dup, 1) := zq_0 zo_89 zkX1_follow_64 26 rfl rfl
theorem dX1_follow_91 : decode cX1_follow 91 = .ok (.getfield 31, 3) := zq_2 zo_180 zkX1_follow_64 27 rfl rfl 0 31 rfl rfl _ rfl
theorem dX1_follow_94 : decode cX1_follow 94 = .ok (.aload_n 0, 1) := zq_0 zo_42 zkX1_follow_64 30 rfl rfl
theorem dX1_follow_95 : decode cX1_follow 95 = .ok (.getfield 15, 3) := zq_2 zo_180 zkX1_follow_64 31 rfl rfl 0 15 rfl rfl _ rfl
theorem zkX1_follow_96 : zqc cX1_follow 96 [0, 15, 21, 5, 46, 96, 181, 0, 31, 21, 6, 42, 180, 0, 15, 21, 5, 46, 96, 54, 7, 21, 7, 43, 180, 0, 44, 21, 5, 46, 96, 62, 21, 4] := zq_of 34 (by decide +kernel)
theorem dX1_follow_98 : decode cX1_follow 98 = .ok (.iload 5, 2) := zq_1 zo_21 zkX1_follow_96 2 rfl rfl 5 rfl
theorem dX1_follow_100 : decode cX1_follow 100 = .ok (.iaload, 1) := zq_0 zo_46 zkX1_follow_96 4 rfl rfl
theorem dX1_follow_101 : decode cX1_follow 101 = .ok (.iadd, 1) := zq_0 zo_96 zkX1_follow_96 5 rfl rfl
theorem dX1_follow_102 : decode cX1_follow 102 = .ok (.putfield 31, 3) := zq_2 zo_181 zkX1_follow_96 6 rfl rfl 0 31 rfl rfl _ rfl
theorem dX1_follow_105 : decode cX1_follow 105 = .ok (.iload 6, 2) := zq_1 zo_21 zkX1_follow_96 9 rfl rfl 6 rfl
theorem dX1_follow_107 : decode cX1_follow 107 = .ok (.aload_n 0, 1) := zq_0 zo_42 zkX1_follow_96 11 rfl rfl
theorem dX1_follow_108 : decode cX1_follow 108 = .ok (.getfield 15, 3) := zq_2 zo_180 zkX1_follow_96 12 rfl rfl 0 15 rfl rfl _ rfl
theorem dX1_follow_111 : decode cX1_follow 111 = .ok (.iload 5, 2) := zq_1 zo_21 zkX1_follow_96 15 rfl rfl 5 rfl
theorem dX1_follow_113 : decode cX1_follow 113 = .ok (.iaload, 1) := zq_0 zo_46 zkX1_follow_96 17 rfl rfl
theorem dX1_follow_114 : decode cX1_follow 114 = .ok (.iadd, 1) := zq_0 zo_96 zkX1_follow_96 18 rfl rfl
theorem dX1_follow_115 : decode cX1_follow 115 = .ok (.istore 7, 2) := zq_1 zo_54 zkX1_follow_96 19 rfl rfl 7 rfl
theorem dX1_follow_117 : decode cX1_follow 117 = .ok (.iload 7, 2) := zq_1 zo_21 zkX1_follow_96 21 rfl rfl 7 rfl
theorem dX1_follow_119 : decode cX1_follow 119 = .ok (.aload_n 1, 1) := zq_0 zo_43 zkX1_follow_96 23 rfl rfl
theorem dX1_follow_120 : decode cX1_follow 120 = .ok (.getfield 44, 3) := zq_2 zo_180 zkX1_follow_96 24 rfl rfl 0 44 rfl rfl _ rfl
theorem dX1_follow_123 : decode cX1_follow 123 = .ok (.iload 5, 2) := zq_1 zo_21 zkX1_follow_96 27 rfl rfl 5 rfl
theorem dX1_follow_125 : decode cX1_follow 125 = .ok (.iaload, 1) := zq_0 zo_46 zkX1_follow_96 29 rfl rfl
theorem dX1_follow_126 : decode cX1_follow 126 = .ok (.iadd, 1) := zq_0 zo_96 zkX1_follow_96 30 rfl rfl
theorem dX1_follow_127 : decode cX1_follow 127 = .ok (.istore_n 3, 1) := zq_0 zo_62 zkX1_follow_96 31 rfl rfl
theorem zkX1_follow_128 : zqc cX1_follow 128 [21, 4, 43, 180, 0, 44, 21, 5, 46, 100, 54, 8, 42, 180, 0, 34, 2, 160, 0, 33, 21, 5, 43, 180, 0, 24, 4, 100, 162, 0, 22, 21, 7, 21] := zq_of 34 (by decide +kernel)
theorem dX1_follow_128 : decode cX1_follow 128 = .ok (.iload 4, 2) := zq_1 zo_21 zkX1_follow_128 0 rfl rfl 4 rfl
theorem dX1_follow_130 : decode cX1_follow 130 = .ok (.aload_n 1, 1) := zq_0 zo_43 zkX1_follow_128 2 rfl rfl
theorem dX1_follow_131 : decode cX1_follow 131 = .ok (.getfield 44, 3) := zq_2 zo_180 zkX1_follow_128 3 rfl rfl 0 44 rfl rfl _ rfl
theorem dX1_follow_134 : decode cX1_follow 134 = .ok (.iload 5, 2) := zq_1 zo_21 zkX1_follow_128 6 rfl rfl 5 rfl
theorem dX1_follow_136 : decode cX1_follow 136 = .ok (.iaload, 1) := zq_0 zo_46 zkX1_follow_128 8 rfl rfl
theorem dX1_follow_137 : decode cX1_follow 137 = .ok (.isub, 1) := zq_0 zo_100 zkX1_follow_128 9 rfl rfl
theorem dX1_follow_138 : decode cX1_follow 138 = .ok (.istore 8, 2) := zq_1 zo_54 zkX1_follow_128 10 rfl rfl 8 rfl
theorem dX1_follow_140 : decode cX1_follow 140 = .ok (.aload_n 0, 1) := zq_0 zo_42 zkX1_follow_128 12 rfl rfl
theorem dX1_follow_141 : decode cX1_follow 141 = .ok (.getfield 34, 3) := zq_2 zo_180 zkX1_follow_128 13 rfl rfl 0 34 rfl rfl _ rfl
theorem dX1_follow_144 : decode cX1_follow 144 = .ok (.iconst (-1), 1) := zq_0 zo_2 zkX1_follow_128 16 rfl rfl
theorem dX1_follow_145 : decode cX1_follow 145 = .ok (.if_icmp .ne 33, 3) := zq_2s zo_160 zkX1_follow_128 17 rfl rfl 0 33 rfl rfl _ (by decide +kernel)
theorem dX1_follow_148 : decode cX1_follow 148 = .ok (.iload 5, 2) := zq_1 zo_21 zkX1_follow_128 20 rfl rfl 5 rfl
theorem dX1_follow_150 : decode cX1_follow 150 = .ok (.aload_n 1, 1) := zq_0 zo_43 zkX1_follow_128 22 rfl rfl
theorem dX1_follow_151 : decode cX1_follow 151 = .ok (.getfield 24, 3) := zq_2 zo_180 zkX1_follow_128 23 rfl rfl 0 24 rfl rfl _ rfl
theorem dX1_follow_154 : decode cX1_follow 154 = .ok (.iconst 1, 1) := zq_0 zo_4 zkX1_follow_128 26 rfl rfl
theorem dX1_follow_155 : decode cX1_follow 155 = .ok (.isub, 1) := zq_0 zo_100 zkX1_follow_128 27 rfl rfl
theorem dX1_follow_156 : decode cX1_follow 156 = .ok (.if_icmp .ge 22, 3) := zq_2s zo_162 zkX1_follow_128 28 rfl rfl 0 22 rfl rfl _ (by decide +kernel)
theorem dX1_follow_159 : decode cX1_follow 159 = .ok (.iload 7, 2) := zq_1 zo_21 zkX1_follow_128 31 rfl rfl 7 rfl
theorem zkX1_follow_160 : zqc cX1_follow 160 [7, 21, 4, 162, 0, 15, 21, 8, 29, 162, 0, 9, 42, 21, 5, 181, 0, 34, 21, 8, 54, 4, 132, 5, 1, 167, 255, 103, 177] := zq_of 29 (by decide +kernel)
theorem dX1_follow_161 : decode cX1_follow 161 = .ok (.iload 4, 2) := zq_1 zo_21 zkX1_follow_160 1 rfl rfl 4 rfl
theorem dX1_follow_163 : decode cX1_follow 163 = .ok (.if_icmp .ge 15, 3) := zq_2s zo_162 zkX1_follow_160 3 rfl rfl 0 15 rfl rfl _ (by decide +kernel)
theorem dX1_follow_166 : decode cX1_follow 166 = .ok (.iload 8, 2) := zq_1 zo_21 zkX1_follow_160 6 rfl rfl 8 rfl
theorem dX1_follow_168 : decode cX1_follow 168 = .ok (.iload_n 3, 1) := zq_0 zo_29 zkX1_follow_160 8 rfl rfl
theorem dX1_follow_169 : decode cX1_follow 169 = .ok (.if_icmp .ge 9, 3) := zq_2s zo_162 zkX1_follow_160 9 rfl rfl 0 9 rfl rfl _ (by decide +kernel)
theorem dX1_follow_172 : decode cX1_follow 172 = .ok (.aload_n 0, 1) := zq_0 zo_42 zkX1_follow_160 12 rfl rfl
theorem dX1_follow_173 : decode cX1_follow 173 = .ok (.iload 5, 2) := zq_1 zo_21 zkX1_follow_160 13 rfl rfl 5 rfl
theorem dX1_follow_175 : decode cX1_follow 175 = .ok (.putfield 34, 3) := zq_2 zo_181 zkX1_follow_160 15 rfl rfl 0 34 rfl rfl _ rfl
theorem dX1_follow_178 : decode cX1_follow 178 = .ok (.iload 8, 2) := zq_1 zo_21 zkX1_follow_160 18 rfl rfl 8 rfl
theorem dX1_follow_180 : decode cX1_follow 180 = .ok (.istore 4, 2) := zq_1 zo_54 zkX1_follow_160 20 rfl rfl 4 rfl
theorem dX1_follow_182 : decode cX1_follow 182 = .ok (.iinc 5 1, 3) := zq_ii zo_132 zkX1_follow_160 22 rfl rfl 5 1 rfl rfl _ (by decide +kernel)
theorem dX1_follow_185 : decode cX1_follow 185 = .ok (.goto (-153), 3) := zq_2s zo_167 zkX1_follow_160 25 rfl rfl 255 103 rfl rfl _ (by decide +kernel)
theorem dX1_follow_188 : decode cX1_follow 188 = .ok (.return_, 1) := zq_0 zo_177 zkX1_follow_160 28 rfl rfl
theorem zkX1_waitAt_0 : zqc cX1_waitAt 0 [42, 27, 182, 0, 47, 153, 0, 11, 42, 27, 182, 0, 51, 167, 0, 4, 2, 54, 4, 21, 4, 2, 160, 0, 5, 3, 172, 42, 21, 4, 182, 0, 27, 42] := zq_of 34 (by decide +kernel)
theorem dX1_waitAt_0 : decode cX1_waitAt 0 = .ok (.aload_n 0, 1) := zq_0 zo_42 zkX1_waitAt_0 0 rfl rfl
theorem dX1_waitAt_1 : decode cX1_waitAt 1 = .ok (.iload_n 1, 1) := zq_0 zo_27 zkX1_waitAt_0 1 rfl rfl
theorem dX1_waitAt_2 : decode cX1_waitAt 2 = .ok (.invokevirtual 47, 3) := zq_2 zo_182 zkX1_waitAt_0 2 rfl rfl 0 47 rfl rfl _ rfl
theorem dX1_waitAt_5 : decode cX1_waitAt 5 = .ok (.ifCond .eq 11, 3) := zq_2s zo_153 zkX1_waitAt_0 5 rfl rfl 0 11 rfl rfl _ (by decide +kernel)
theorem dX1_waitAt_8 : decode cX1_waitAt 8 = .ok (.aload_n 0, 1) := zq_0 zo_42 zkX1_waitAt_0 8 rfl rfl
theorem dX1_waitAt_9 : decode cX1_waitAt 9 = .ok (.iload_n 1, 1) := zq_0 zo_27 zkX1_waitAt_0 9 rfl rfl
theorem dX1_waitAt_10 : decode cX1_waitAt 10 = .ok (.invokevirtual 51, 3) := zq_2 zo_182 zkX1_waitAt_0 10 rfl rfl 0 51 rfl rfl _ rfl
theorem dX1_waitAt_13 : decode cX1_waitAt 13 = .ok (.goto 4, 3) := zq_2s zo_167 zkX1_waitAt_0 13 rfl rfl 0 4 rfl rfl _ (by decide +kernel)
theorem dX1_waitAt_16 : decode cX1_waitAt 16 = .ok (.iconst (-1), 1) := zq_0 zo_2 zkX1_waitAt_0 16 rfl rfl
theorem dX1_waitAt_17 : decode cX1_waitAt 17 = .ok (.istore 4, 2) := zq_1 zo_54 zkX1_waitAt_0 17 rfl rfl 4 rfl
theorem dX1_waitAt_19 : decode cX1_waitAt 19 = .ok (.iload 4, 2) := zq_1 zo_21 zkX1_waitAt_0 19 rfl rfl 4 rfl
theorem dX1_waitAt_21 : decode cX1_waitAt 21 = .ok (.iconst (-1), 1) := zq_0 zo_2 zkX1_waitAt_0 21 rfl rfl
theorem dX1_waitAt_22 : decode cX1_waitAt 22 = .ok (.if_icmp .ne 5, 3) := zq_2s zo_160 zkX1_waitAt_0 22 rfl rfl 0 5 rfl rfl _ (by decide +kernel)
theorem dX1_waitAt_25 : decode cX1_waitAt 25 = .ok (.iconst 0, 1) := zq_0 zo_3 zkX1_waitAt_0 25 rfl rfl
theorem dX1_waitAt_26 : decode cX1_waitAt 26 = .ok (.ireturn, 1) := zq_0 zo_172 zkX1_waitAt_0 26 rfl rfl
theorem dX1_waitAt_27 : decode cX1_waitAt 27 = .ok (.aload_n 0, 1) := zq_0 zo_42 zkX1_waitAt_0 27 rfl rfl
theorem dX1_waitAt_28 : decode cX1_waitAt 28 = .ok (.iload 4, 2) := zq_1 zo_21 zkX1_waitAt_0 28 rfl rfl 4 rfl
theorem dX1_waitAt_30 : decode cX1_waitAt 30 = .ok (.invokevirtual 27, 3) := zq_2 zo_182 zkX1_waitAt_0 30 rfl rfl 0 27 rfl rfl _ rfl
theorem zkX1_waitAt_32 : zqc cX1_waitAt 32 [27, 42, 27, 182, 0, 27, 100, 54, 5, 29, 28, 164, 0, 20, 29, 21, 5, 100, 28, 21, 5, 96, 162, 0, 9, 29, 28, 100, 167, 0, 4, 3, 172] := zq_of 33 (by decide +kernel)
theorem dX1_waitAt_33 : decode cX1_waitAt 33 = .ok (.aload_n 0, 1) := zq_0 zo_42 zkX1_waitAt_32 1 rfl rfl
theorem dX1_waitAt_34 : decode cX1_waitAt 34 = .ok (.iload_n 1, 1) := zq_0 zo_27 zkX1_waitAt_32 2 rfl rfl
theorem dX1_waitAt_35 : decode cX1_waitAt 35 = .ok (.invokevirtual 27, 3) := zq_2 zo_182 zkX1_waitAt_32 3 rfl rfl 0 27 rfl rfl _ rfl
theorem dX1_waitAt_38 : decode cX1_waitAt 38 = .ok (.isub, 1) := zq_0 zo_100 zkX1_waitAt_32 6 rfl rfl
theorem dX1_waitAt_39 : decode cX1_waitAt 39 = .ok (.istore 5, 2) := zq_1 zo_54 zkX1_waitAt_32 7 rfl rfl 5 rfl
theorem dX1_waitAt_41 : decode cX1_waitAt 41 = .ok (.iload_n 3, 1) := zq_0 zo_29 zkX1_waitAt_32 9 rfl rfl
theorem dX1_waitAt_42 : decode cX1_waitAt 42 = .ok (.iload_n 2, 1) := zq_0 zo_28 zkX1_waitAt_32 10 rfl rfl
theorem dX1_waitAt_43 : decode cX1_waitAt 43 = .ok (.if_icmp .le 20, 3) := zq_2s zo_164 zkX1_waitAt_32 11 rfl rfl 0 20 rfl rfl _ (by decide +kernel)
theorem dX1_waitAt_46 : decode cX1_waitAt 46 = .ok (.iload_n 3, 1) := zq_0 zo_29 zkX1_waitAt_32 14 rfl rfl
theorem dX1_waitAt_47 : decode cX1_waitAt 47 = .ok (.iload 5, 2) := zq_1 zo_21 zkX1_waitAt_32 15 rfl rfl 5 rfl
theorem dX1_waitAt_49 : decode cX1_waitAt 49 = .ok (.isub, 1) := zq_0 zo_100 zkX1_waitAt_32 17 rfl rfl
theorem dX1_waitAt_50 : decode cX1_waitAt 50 = .ok (.iload_n 2, 1) := zq_0 zo_28 zkX1_waitAt_32 18 rfl rfl
theorem dX1_waitAt_51 : decode cX1_waitAt 51 = .ok (.iload 5, 2) := zq_1 zo_21 zkX1_waitAt_32 19 rfl rfl 5 rfl
theorem dX1_waitAt_53 : decode cX1_waitAt 53 = .ok (.iadd, 1) := zq_0 zo_96 zkX1_waitAt_32 21 rfl rfl
theorem dX1_waitAt_54 : decode cX1_waitAt 54 = .ok (.if_icmp .ge 9, 3) := zq_2s zo_162 zkX1_waitAt_32 22 rfl rfl 0 9 rfl rfl _ (by decide +kernel)
theorem dX1_waitAt_57 : decode cX1_waitAt 57 = .ok (.iload_n 3, 1) := zq_0 zo_29 zkX1_waitAt_32 25 rfl rfl
theorem dX1_waitAt_58 : decode cX1_waitAt 58 = .ok (.iload_n 2, 1) := zq_0 zo_28 zkX1_waitAt_32 26 rfl rfl
theorem dX1_waitAt_59 : decode cX1_waitAt 59 = .ok (.isub, 1) := zq_0 zo_100 zkX1_waitAt_32 27 rfl rfl
theorem dX1_waitAt_60 : decode cX1_waitAt 60 = .ok (.goto 4, 3) := zq_2s zo_167 zkX1_waitAt_32 28 rfl rfl 0 4 rfl rfl _ (by decide +kernel)
theorem dX1_waitAt_63 : decode cX1_waitAt 63 = .ok (.iconst 0, 1) := zq_0 zo_3 zkX1_waitAt_32 31 rfl rfl
theorem zkX1_waitAt_64 : zqc cX1_waitAt 64 [172] := zq_of 1 (by decide +kernel)
theorem dX1_waitAt_64 : decode cX1_waitAt 64 = .ok (.ireturn, 1) := zq_0 zo_172 zkX1_waitAt_64 0 rfl rfl
theorem zkX2_init_0 : zqc cX2_init 0 [42, 183, 0, 3, 42, 16, 16, 188, 10, 181, 0, 9, 42, 16, 16, 188, 10, 181, 0, 15, 177] := zq_of 21 (by decide +kernel)
theorem dX2_init_0 : decode cX2_init 0 = .ok (.aload_n 0, 1) := zq_0 zo_42 zkX2_init_0 0 rfl rfl
theorem dX2_init_1 : decode cX2_init 1 = .ok (.invokespecial 3, 3) := zq_2 zo_183 zkX2_init_0 1 rfl rfl 0 3 rfl rfl _ rfl
theorem dX2_init_4 : decode cX2_init 4 = .ok (.aload_n 0, 1) := zq_0 zo_42 zkX2_init_0 4 rfl rfl
theorem dX2_init_5 : decode cX2_init 5 = .ok (.bipush 16, 2) := zq_1s zo_16 zkX2_init_0 5 rfl rfl 16 rfl _ (by decide +kernel)
theorem dX2_init_7 : decode cX2_init 7 = .ok (.newarray .int, 2) := by decide +kernel
theorem dX2_init_9 : decode cX2_init 9 = .ok (.putfield 9, 3) := zq_2 zo_181 zkX2_init_0 9 rfl rfl 0 9 rfl rfl _ rfl
theorem dX2_init_12 : decode cX2_init 12 = .ok (.aload_n 0, 1) := zq_0 zo_42 zkX2_init_0 12 rfl rfl
theorem dX2_init_13 : decode cX2_init 13 = .ok (.bipush 16, 2) := zq_1s zo_16 zkX2_init_0 13 rfl rfl 16 rfl _ (by decide +kernel)
theorem dX2_init_15 : decode cX2_init 15 = .ok (.newarray .int, 2) := by decide +kernel
theorem dX2_init_17 : decode cX2_init 17 = .ok (.putfield 15, 3) := zq_2 zo_181 zkX2_init_0 17 rfl rfl 0 15 rfl rfl _ rfl
theorem dX2_init_20 : decode cX2_init 20 = .ok (.return_, 1) := zq_0 zo_177 zkX2_init_0 20 rfl rfl
theorem zkX2_copyFrom_0 : zqc cX2_copyFrom 0 [43, 180, 0, 9, 3, 42, 180, 0, 9, 3, 16, 16, 184, 0, 18, 43, 180, 0, 15, 3, 42, 180, 0, 15, 3, 16, 16, 184, 0, 18, 42, 43, 180, 0] := zq_of 34 (by decide +kernel)
theorem dX2_copyFrom_0 : decode cX2_copyFrom 0 = .ok (.aload_n 1, 1) := zq_0 zo_43 zkX2_copyFrom_0 0 rfl rfl
theorem dX2_copyFrom_1 : decode cX2_copyFrom 1 = .ok (.getfield 9, 3) := zq_2 zo_180 zkX2_copyFrom_0 1 rfl rfl 0 9 rfl rfl _ rfl
theorem dX2_copyFrom_4 : decode cX2_copyFrom 4 = .ok (.iconst 0, 1) := zq_0 zo_3 zkX2_copyFrom_0 4 rfl rfl
theorem dX2_copyFrom_5 : decode cX2_copyFrom 5 = .ok (.aload_n 0, 1) := zq_0 zo_42 zkX2_copyFrom_0 5 rfl rfl
theorem dX2_copyFrom_6 : decode cX2_copyFrom 6 = .ok (.getfield 9, 3) := zq_2 zo_180 zkX2_copyFrom_0 6 rfl rfl 0 9 rfl rfl _ rfl
theorem dX2_copyFrom_9 : decode cX2_copyFrom 9 = .ok (.iconst 0, 1) := zq_0 zo_3 zkX2_copyFrom_0 9 rfl rfl
theorem dX2_copyFrom_10 : decode cX2_copyFrom 10 = .ok (.bipush 16, 2) := zq_1s zo_16 zkX2_copyFrom_0 10 rfl rfl 16 rfl _ (by decide +kernel)
theorem dX2_copyFrom_12 : decode cX2_copyFrom 12 = .ok (.invokestatic 18, 3) := zq_2 zo_184 zkX2_copyFrom_0 12 rfl rfl 0 18 rfl rfl _ rfl
theorem dX2_copyFrom_15 : decode cX2_copyFrom 15 = .ok (.aload_n 1, 1) := zq_0 zo_43 zkX2_copyFrom_0 15 rfl rfl
theorem dX2_copyFrom_16 : decode cX2_copyFrom 16 = .ok (.getfield 15, 3) := zq_2 zo_180 zkX2_copyFrom_0 16 rfl rfl 0 15 rfl rfl _ rfl
theorem dX2_copyFrom_19 : decode cX2_copyFrom 19 = .ok (.iconst 0, 1) := zq_0 zo_3 zkX2_copyFrom_0 19 rfl rfl
theorem dX2_copyFrom_20 : decode cX2_copyFrom 20 = .ok (.aload_n 0, 1) := zq_0 zo_42 zkX2_copyFrom_0 20 rfl rfl
theorem dX2_copyFrom_21 : decode cX2_copyFrom 21 = .ok (.getfield 15, 3) := zq_2 zo_180 zkX2_copyFrom_0 21 rfl rfl 0 15 rfl rfl _ rfl
theorem dX2_copyFrom_24 : decode cX2_copyFrom 24 = .ok (.iconst 0, 1) := zq_0 zo_3 zkX2_copyFrom_0 24 rfl rfl
theorem dX2_copyFrom_25 : decode cX2_copyFrom 25 = .ok (.bipush 16, 2) := zq_1s zo_16 zkX2_copyFrom_0 25 rfl rfl 16 rfl _ (by decide +kernel)
theorem dX2_copyFrom_27 : decode cX2_copyFrom 27 = .ok (.invokestatic 18, 3) := zq_2 zo_184 zkX2_copyFrom_0 27 rfl rfl 0 18 rfl rfl _ rfl
theorem dX2_copyFrom_30 : decode cX2_copyFrom 30 = .ok (.aload_n 0, 1) := zq_0 zo_42 zkX2_copyFrom_0 30 rfl rfl
theorem dX2_copyFrom_31 : decode cX2_copyFrom 31 = .ok (.aload_n 1, 1) := zq_0 zo_43 zkX2_copyFrom_0 31 rfl rfl
theorem zkX2_copyFrom_32 : zqc cX2_copyFrom 32 [180, 0, 24, 181, 0, 24, 177] := zq_of 7 (by decide +kernel)
theorem dX2_copyFrom_32 : decode cX2_copyFrom 32 = .ok (.getfield 24, 3) := zq_2 zo_180 zkX2_copyFrom_32 0 rfl rfl 0 24 rfl rfl _ rfl
theorem dX2_copyFrom_35 : decode cX2_copyFrom 35 = .ok (.putfield 24, 3) := zq_2 zo_181 zkX2_copyFrom_32 3 rfl rfl 0 24 rfl rfl _ rfl
theorem dX2_copyFrom_38 : decode cX2_copyFrom 38 = .ok (.return_, 1) := zq_0 zo_177 zkX2_copyFrom_32 6 rfl rfl
theorem zkX2_add_0 : zqc cX2_add 0 [42, 180, 0, 24, 16, 16, 162, 0, 33, 42, 180, 0, 9, 42, 180, 0, 24, 27, 79, 42, 180, 0, 15, 42, 180, 0, 24, 28, 79, 42, 89, 180, 0, 24] := zq_of 34 (by decide +kernel)
theorem dX2_add_0 : decode cX2_add 0 = .ok (.aload_n 0, 1) := zq_0 zo_42 zkX2_add_0 0 rfl rfl
theorem dX2_add_1 : decode cX2_add 1 = .ok (.getfield 24, 3) := zq_2 zo_180 zkX2_add_0 1 rfl rfl 0 24 rfl rfl _ rfl
theorem dX2_add_4 : decode cX2_add 4 = .ok (.bipush 16, 2) := zq_1s zo_16 zkX2_add_0 4 rfl rfl 16 rfl _ (by decide +kernel)
theorem dX2_add_6 : decode cX2_add 6 = .ok (.if_icmp .ge 33, 3) := zq_2s zo_162 zkX2_add_0 6 rfl rfl 0 33 rfl rfl _ (by decide +kernel)
theorem dX2_add_9 : decode cX2_add 9 = .ok (.aload_n 0, 1) := zq_0 zo_42 zkX2_add_0 9 rfl rfl
theorem dX2_add_10 : decode cX2_add 10 = .ok (.getfield 9, 3) := zq_2 zo_180 zkX2_add_0 10 rfl rfl 0 9 rfl rfl _ rfl
theorem dX2_add_13 : decode cX2_add 13 = .ok (.aload_n 0, 1) := zq_0 zo_42 zkX2_add_0 13 rfl rfl
theorem dX2_add_14 : decode cX2_add 14 = .ok (.getfield 24, 3) := zq_2 zo_180 zkX2_add_0 14 rfl rfl 0 24 rfl rfl _ rfl
theorem dX2_add_17 : decode cX2_add 17 = .ok (.iload_n 1, 1) := zq_0 zo_27 zkX2_add_0 17 rfl rfl
theorem dX2_add_18 : decode cX2_add 18 = .ok (.iastore, 1) := zq_0 zo_79 zkX2_add_0 18 rfl rfl
theorem dX2_add_19 : decode cX2_add 19 = .ok (.aload_n 0, 1) := zq_0 zo_42 zkX2_add_0 19 rfl rfl
theorem dX2_add_20 : decode cX2_add 20 = .ok (.getfield 15, 3) := zq_2 zo_180 zkX2_add_0 20 rfl rfl 0 15 rfl rfl _ rfl
theorem dX2_add_23 : decode cX2_add 23 = .ok (.aload_n 0, 1) := zq_0 zo_42 zkX2_add_0 23 rfl rfl
theorem dX2_add_24 : decode cX2_add 24 = .ok (.getfield 24, 3) := zq_2 zo_180 zkX2_add_0 24 rfl rfl 0 24 rfl rfl _ rfl
theorem dX2_add_27 : decode cX2_add 27 = .ok (.iload_n 2, 1) := zq_0 zo_28 zkX2_add_0 27 rfl rfl
theorem dX2_add_28 : decode cX2_add 28 = .ok (.iastore, 1) := zq_0 zo_79 zkX2_add_0 28 rfl rfl
theorem dX2_add_29 : decode cX2_add 29 = .ok (.aload_n 0, 1) := zq_0 zo_42 zkX2_add_0 29 rfl rfl
theorem dX2_add_30 : decode cX2_add 30 = .ok (.dup, 1) := zq_0 zo_89 zkX2_add_0 30 rfl rfl
theorem dX2_add_31 : decode cX2_add 31 = .ok (.getfield 24, 3) := zq_2 zo_180 zkX2_add_0 31 rfl rfl 0 24 rfl rfl _ rfl
theorem zkX2_add_32 : zqc cX2_add 32 [0, 24, 4, 96, 181, 0, 24, 177] := zq_of 8 (by decide +kernel)
theorem dX2_add_34 : decode cX2_add 34 = .ok (.iconst 1, 1) := zq_0 zo_4 zkX2_add_32 2 rfl rfl
theorem dX2_add_35 : decode cX2_add 35 = .ok (.iadd, 1) := zq_0 zo_96 zkX2_add_32 3 rfl rfl
theorem dX2_add_36 : decode cX2_add 36 = .ok (.putfield 24, 3) := zq_2 zo_181 zkX2_add_32 4 rfl rfl 0 24 rfl rfl _ rfl
theorem dX2_add_39 : decode cX2_add 39 = .ok (.return_, 1) := zq_0 zo_177 zkX2_add_32 7 rfl rfl
theorem zkX3_init_0 : zqc cX3_init 0 [42, 183, 0, 3, 42, 17, 3, 232, 188, 10, 181, 0, 9, 42, 17, 3, 232, 188, 10, 181, 0, 15, 177] := zq_of 23 (by decide +kernel)
theorem dX3_init_0 : decode cX3_init 0 = .ok (.aload_n 0, 1) := zq_0 zo_42 zkX3_init_0 0 rfl rfl
theorem dX3_init_1 : decode cX3_init 1 = .ok (.invokespecial 3, 3) := zq_2 zo_183 zkX3_init_0 1 rfl rfl 0 3 rfl rfl _ rfl
theorem dX3_init_4 : decode cX3_init 4 = .ok (.aload_n 0, 1) := zq_0 zo_42 zkX3_init_0 4 rfl rfl
theorem dX3_init_5 : decode cX3_init 5 = .ok (.sipush 1000, 3) := zq_2s zo_17 zkX3_init_0 5 rfl rfl 3 232 rfl rfl _ (by decide +kernel)
theorem dX3_init_8 : decode cX3_init 8 = .ok (.newarray .int, 2) := by decide +kernel
theorem dX3_init_10 : decode cX3_init 10 = .ok (.putfield 9, 3) := zq_2 zo_181 zkX3_init_0 10 rfl rfl 0 9 rfl rfl _ rfl
theorem dX3_init_13 : decode cX3_init 13 = .ok (.aload_n 0, 1) := zq_0 zo_42 zkX3_init_0 13 rfl rfl
theorem dX3_init_14 : decode cX3_init 14 = .ok (.sipush 1000, 3) := zq_2s zo_17 zkX3_init_0 14 rfl rfl 3 232 rfl rfl _ (by decide +kernel)
theorem dX3_init_17 : decode cX3_init 17 = .ok (.newarray .int, 2) := by decide +kernel
theorem dX3_init_19 : decode cX3_init 19 = .ok (.putfield 15, 3) := zq_2 zo_181 zkX3_init_0 19 rfl rfl 0 15 rfl rfl _ rfl
theorem dX3_init_22 : decode cX3_init 22 = .ok (.return_, 1) := zq_0 zo_177 zkX3_init_0 22 rfl rfl
theorem zkX3_fill_0 : zqc cX3_fill 0 [3, 54, 4, 21, 4, 29, 163, 0, 25, 21, 4, 17, 3, 231, 163, 0, 17, 42, 180, 0, 9, 21, 4, 2, 79, 132, 4, 1, 167, 255, 231, 42, 180, 0] := zq_of 34 (by decide +kernel)
theorem dX3_fill_0 : decode cX3_fill 0 = .ok (.iconst 0, 1) := zq_0 zo_3 zkX3_fill_0 0 rfl rfl
theorem dX3_fill_1 : decode cX3_fill 1 = .ok (.istore 4, 2) := zq_1 zo_54 zkX3_fill_0 1 rfl rfl 4 rfl
theorem dX3_fill_3 : decode cX3_fill 3 = .ok (.iload 4, 2) := zq_1 zo_21 zkX3_fill_0 3 rfl rfl 4 rfl
theorem dX3_fill_5 : decode cX3_fill 5 = .ok (.iload_n 3, 1) := zq_0 zo_29 zkX3_fill_0 5 rfl rfl
theorem dX3_fill_6 : decode cX3_fill 6 = .ok (.if_icmp .gt 25, 3) := zq_2s zo_163 zkX3_fill_0 6 rfl rfl 0 25 rfl rfl _ (by decide +kernel)
theorem dX3_fill_9 : decode cX3_fill 9 = .ok (.iload 4, 2) := zq_1 zo_21 zkX3_fill_0 9 rfl rfl 4 rfl
theorem dX3_fill_11 : decode cX3_fill 11 = .ok (.sipush 999, 3) := zq_2s zo_17 zkX3_fill_0 11 rfl rfl 3 231 rfl rfl _ (by decide +kernel)
theorem dX3_fill_14 : decode cX3_fill 14 = .ok (.if_icmp .gt 17, 3) := zq_2s zo_163 zkX3_fill_0 14 rfl rfl 0 17 rfl rfl _ (by decide +kernel)
theorem dX3_fill_17 : decode cX3_fill 17 = .ok (.aload_n 0, 1) := zq_0 zo_42 zkX3_fill_0 17 rfl rfl
theorem dX3_fill_18 : decode cX3_fill 18 = .ok (.getfield 9, 3) := zq_2 zo_180 zkX3_fill_0 18 rfl rfl 0 9 rfl rfl _ rfl
theorem dX3_fill_21 : decode cX3_fill 21 = .ok (.iload 4, 2) := zq_1 zo_21 zkX3_fill_0 21 rfl rfl 4 rfl
theorem dX3_fill_23 : decode cX3_fill 23 = .ok (.iconst (-1), 1) := zq_0 zo_2 zkX3_fill_0 23 rfl rfl
theorem dX3_fill_24 : decode cX3_fill 24 = .ok (.iastore, 1) := zq_0 zo_79 zkX3_fill_0 24 rfl rfl
theorem dX3_fill_25 : decode cX3_fill 25 = .ok (.iinc 4 1, 3) := zq_ii zo_132 zkX3_fill_0 25 rfl rfl 4 1 rfl rfl _ (by decide +kernel)
theorem dX3_fill_28 : decode cX3_fill 28 = .ok (.goto (-25), 3) := zq_2s zo_167 zkX3_fill_0 28 rfl rfl 255 231 rfl rfl _ (by decide +kernel)
theorem dX3_fill_31 : decode cX3_fill 31 = .ok (.aload_n 0, 1) := zq_0 zo_42 zkX3_fill_0 31 rfl rfl
theorem zkX3_fill_32 : zqc cX3_fill 32 [180, 0, 9, 3, 3, 79, 3, 54, 4, 21, 4, 43, 180, 0, 18, 4, 100, 162, 0, 38, 43, 21, 4, 28, 182, 0, 23, 54, 5, 21, 5, 158, 0, 18] := zq_of 34 (by decide +kernel)
theorem dX3_fill_32 : decode cX3_fill 32 = .ok (.getfield 9, 3) := zq_2 zo_180 zkX3_fill_32 0 rfl rfl 0 9 rfl rfl _ rfl
theorem dX3_fill_35 : decode cX3_fill 35 = .ok (.iconst 0, 1) := zq_0 zo_3 zkX3_fill_32 3 rfl rfl
theorem dX3_fill_36 : decode cX3_fill 36 = .ok (.iconst 0, 1) := zq_0 zo_3 zkX3_fill_32 4 rfl rfl
theorem dX3_fill_37 : decode cX3_fill 37 = .ok (.iastore, 1) := zq_0 zo_79 zkX3_fill_32 5 rfl rfl
theorem dX3_fill_38 : decode cX3_fill 38 = .ok (.iconst 0, 1) := zq_0 zo_3 zkX3_fill_32 6 rfl rfl
theorem dX3_fill_39 : decode cX3_fill 39 = .ok (.istore 4, 2) := zq_1 zo_54 zkX3_fill_32 7 rfl rfl 4 rfl
theorem dX3_fill_41 : decode cX3_fill 41 = .ok (.iload 4, 2) := zq_1 zo_21 zkX3_fill_32 9 rfl rfl 4 rfl
theorem dX3_fill_43 : decode cX3_fill 43 = .ok (.aload_n 1, 1) := zq_0 zo_43 zkX3_fill_32 11 rfl rfl
theorem dX3_fill_44 : decode cX3_fill 44 = .ok (.getfield 18, 3) := zq_2 zo_180 zkX3_fill_32 12 rfl rfl 0 18 rfl rfl _ rfl
theorem dX3_fill_47 : decode cX3_fill 47 = .ok (.iconst 1, 1) := zq_0 zo_4 zkX3_fill_32 15 rfl rfl
theorem dX3_fill_48 : decode cX3_fill 48 = .ok (.isub, 1) := zq_0 zo_100 zkX3_fill_32 16 rfl rfl
theorem dX3_fill_49 : decode cX3_fill 49 = .ok (.if_icmp .ge 38, 3) := zq_2s zo_162 zkX3_fill_32 17 rfl rfl 0 38 rfl rfl _ (by decide +kernel)
theorem dX3_fill_52 : decode cX3_fill 52 = .ok (.aload_n 1, 1) := zq_0 zo_43 zkX3_fill_32 20 rfl rfl
theorem dX3_fill_53 : decode cX3_fill 53 = .ok (.iload 4, 2) := zq_1 zo_21 zkX3_fill_32 21 rfl rfl 4 rfl
theorem dX3_fill_55 : decode cX3_fill 55 = .ok (.iload_n 2, 1) := zq_0 zo_28 zkX3_fill_32 23 rfl rfl
theorem dX3_fill_56 : decode cX3_fill 56 = .ok (.invokevirtual 23, 3) := zq_2 zo_182 zkX3_fill_32 24 rfl rfl 0 23 rfl rfl _ rfl
theorem dX3_fill_59 : decode cX3_fill 59 = .ok (.istore 5, 2) := zq_1 zo_54 zkX3_fill_32 27 rfl rfl 5 rfl
theorem dX3_fill_61 : decode cX3_fill 61 = .ok (.iload 5, 2) := zq_1 zo_21 zkX3_fill_32 29 rfl rfl 5 rfl
theorem dX3_fill_63 : decode cX3_fill 63 = .ok (.ifCond .le 18, 3) := zq_2s zo_158 zkX3_fill_32 31 rfl rfl 0 18 rfl rfl _ (by decide +kernel)
theorem zkX3_fill_64 : zqc cX3_fill 64 [0, 18, 42, 21, 4, 21, 5, 43, 21, 4, 182, 0, 27, 29, 182, 0, 31, 132, 4, 1, 167, 255, 213, 177] := zq_of 24 (by decide +kernel)
theorem dX3_fill_66 : decode cX3_fill 66 = .ok (.aload_n 0, 1) := zq_0 zo_42 zkX3_fill_64 2 rfl rfl
theorem dX3_fill_67 : decode cX3_fill 67 = .ok (.iload 4, 2) := zq_1 zo_21 zkX3_fill_64 3 rfl rfl 4 rfl
theorem dX3_fill_69 : decode cX3_fill 69 = .ok (.iload 5, 2) := zq_1 zo_21 zkX3_fill_64 5 rfl rfl 5 rfl
theorem dX3_fill_71 : decode cX3_fill 71 = .ok (.aload_n 1, 1) := zq_0 zo_43 zkX3_fill_64 7 rfl rfl
theorem dX3_fill_72 : decode cX3_fill 72 = .ok (.iload 4, 2) := zq_1 zo_21 zkX3_fill_64 8 rfl rfl 4 rfl
theorem dX3_fill_74 : decode cX3_fill 74 = .ok (.invokevirtual 27, 3) := zq_2 zo_182 zkX3_fill_64 10 rfl rfl 0 27 rfl rfl _ rfl
theorem dX3_fill_77 : decode cX3_fill 77 = .ok (.iload_n 3, 1) := zq_0 zo_29 zkX3_fill_64 13 rfl rfl
theorem dX3_fill_78 : decode cX3_fill 78 = .ok (.invokevirtual 31, 3) := zq_2 zo_182 zkX3_fill_64 14 rfl rfl 0 31 rfl rfl _ rfl
theorem dX3_fill_81 : decode cX3_fill 81 = .ok (.iinc 4 1, 3) := zq_ii zo_132 zkX3_fill_64 17 rfl rfl 4 1 rfl rfl _ (by decide +kernel)
theorem dX3_fill_84 : decode cX3_fill 84 = .ok (.goto (-43), 3) := zq_2s zo_167 zkX3_fill_64 20 rfl rfl 255 213 rfl rfl _ (by decide +kernel)
theorem dX3_fill_87 : decode cX3_fill 87 = .ok (.return_, 1) := zq_0 zo_177 zkX3_fill_64 23 rfl rfl
theorem zkX3_addPost_0 : zqc cX3_addPost 0 [21, 4, 17, 3, 231, 184, 0, 35, 54, 5, 21, 5, 29, 161, 0, 75, 29, 155, 0, 71, 42, 180, 0, 9, 21, 5, 29, 100, 46, 54, 6, 21, 6, 2] := zq_of 34 (by decide +kernel)
theorem dX3_addPost_0 : decode cX3_addPost 0 = .ok (.iload 4, 2) := zq_1 zo_21 zkX3_addPost_0 0 rfl rfl 4 rfl
theorem dX3_addPost_2 : decode cX3_addPost 2 = .ok (.sipush 999, 3) := zq_2s zo_17 zkX3_addPost_0 2 rfl rfl 3 231 rfl rfl _ (by decide +kernel)
theorem dX3_addPost_5 : decode cX3_addPost 5 = .ok (.invokestatic 35, 3) := zq_2 zo_184 zkX3_addPost_0 5 rfl rfl 0 35 rfl rfl _ rfl
theorem dX3_addPost_8 : decode cX3_addPost 8 = .ok (.istore 5, 2) := zq_1 zo_54 zkX3_addPost_0 8 rfl rfl 5 rfl
theorem dX3_addPost_10 : decode cX3_addPost 10 = .ok (.iload 5, 2) := zq_1 zo_21 zkX3_addPost_0 10 rfl rfl 5 rfl
theorem dX3_addPost_12 : decode cX3_addPost 12 = .ok (.iload_n 3, 1) := zq_0 zo_29 zkX3_addPost_0 12 rfl rfl
theorem dX3_addPost_13 : decode cX3_addPost 13 = .ok (.if_icmp .lt 75, 3) := zq_2s zo_161 zkX3_addPost_0 13 rfl rfl 0 75 rfl rfl _ (by decide +kernel)
theorem dX3_addPost_16 : decode cX3_addPost 16 = .ok (.iload_n 3, 1) := zq_0 zo_29 zkX3_addPost_0 16 rfl rfl
theorem dX3_addPost_17 : decode cX3_addPost 17 = .ok (.ifCond .lt 71, 3) := zq_2s zo_155 zkX3_addPost_0 17 rfl rfl 0 71 rfl rfl _ (by decide +kernel)
theorem dX3_addPost_20 : decode cX3_addPost 20 = .ok (.aload_n 0, 1) := zq_0 zo_42 zkX3_addPost_0 20 rfl rfl
theorem dX3_addPost_21 : decode cX3_addPost 21 = .ok (.getfield 9, 3) := zq_2 zo_180 zkX3_addPost_0 21 rfl rfl 0 9 rfl rfl _ rfl
theorem dX3_addPost_24 : decode cX3_addPost 24 = .ok (.iload 5, 2) := zq_1 zo_21 zkX3_addPost_0 24 rfl rfl 5 rfl
theorem dX3_addPost_26 : decode cX3_addPost 26 = .ok (.iload_n 3, 1) := zq_0 zo_29 zkX3_addPost_0 26 rfl rfl
theorem dX3_addPost_27 : decode cX3_addPost 27 = .ok (.isub, 1) := zq_0 zo_100 zkX3_addPost_0 27 rfl rfl
theorem dX3_addPost_28 : decode cX3_addPost 28 = .ok (.iaload, 1) := zq_0 zo_46 zkX3_addPost_0 28 rfl rfl
theorem dX3_addPost_29 : decode cX3_addPost 29 = .ok (.istore 6, 2) := zq_1 zo_54 zkX3_addPost_0 29 rfl rfl 6 rfl
theorem dX3_addPost_31 : decode cX3_addPost 31 = .ok (.iload 6, 2) := zq_1 zo_21 zkX3_addPost_0 31 rfl rfl 6 rfl
theorem zkX3_addPost_32 : zqc cX3_addPost 32 [6, 2, 159, 0, 48, 21, 6, 28, 96, 42, 180, 0, 9, 21, 5, 46, 164, 0, 34, 42, 180, 0, 9, 21, 5, 21, 6, 28, 96, 79, 42, 180, 0, 15] := zq_of 34 (by decide +kernel)
theorem dX3_addPost_33 : decode cX3_addPost 33 = .ok (.iconst (-1), 1) := zq_0 zo_2 zkX3_addPost_32 1 rfl rfl
theorem dX3_addPost_34 : decode cX3_addPost 34 = .ok (.if_icmp .eq 48, 3) := zq_2s zo_159 zkX3_addPost_32 2 rfl rfl 0 48 rfl rfl _ (by decide +kernel)
theorem dX3_addPost_37 : decode cX3_addPost 37 = .ok (.iload 6, 2) := zq_1 zo_21 zkX3_addPost_32 5 rfl rfl 6 rfl
theorem dX3_addPost_39 : decode cX3_addPost 39 = .ok (.iload_n 2, 1) := zq_0 zo_28 zkX3_addPost_32 7 rfl rfl
theorem dX3_addPost_40 : decode cX3_addPost 40 = .ok (.iadd, 1) := zq_0 zo_96 zkX3_addPost_32 8 rfl rfl
theorem dX3_addPost_41 : decode cX3_addPost 41 = .ok (.aload_n 0, 1) := zq_0 zo_42 zkX3_addPost_32 9 rfl rfl
theorem dX3_addPost_42 : decode cX3_addPost 42 = .ok (.getfield 9, 3) := zq_2 zo_180 zkX3_addPost_32 10 rfl rfl 0 9 rfl rfl _ rfl
theorem dX3_addPost_45 : decode cX3_addPost 45 = .ok (.iload 5, 2) := zq_1 zo_21 zkX3_addPost_32 13 rfl rfl 5 rfl
theorem dX3_addPost_47 : decode cX3_addPost 47 = .ok (.iaload, 1) := zq_0 zo_46 zkX3_addPost_32 15 rfl rfl
theorem dX3_addPost_48 : decode cX3_addPost 48 = .ok (.if_icmp .le 34, 3) := zq_2s zo_164 zkX3_addPost_32 16 rfl rfl 0 34 rfl rfl _ (by decide +kernel)
theorem dX3_addPost_51 : decode cX3_addPost 51 = .ok (.aload_n 0, 1) := zq_0 zo_42 zkX3_addPost_32 19 rfl rfl
theorem dX3_addPost_52 : decode cX3_addPost 52 = .ok (.getfield 9, 3) := zq_2 zo_180 zkX3_addPost_32 20 rfl rfl 0 9 rfl rfl _ rfl
theorem dX3_addPost_55 : decode cX3_addPost 55 = .ok (.iload 5, 2) := zq_1 zo_21 zkX3_addPost_32 23 rfl rfl 5 rfl
theorem dX3_addPost_57 : decode cX3_addPost 57 = .ok (.iload 6, 2) := zq_1 zo_21 zkX3_addPost_32 25 rfl rfl 6 rfl
theorem dX3_addPost_59 : decode cX3_addPost 59 = .ok (.iload_n 2, 1) := zq_0 zo_28 zkX3_addPost_32 27 rfl rfl
theorem dX3_addPost_60 : decode cX3_addPost 60 = .ok (.iadd, 1) := zq_0 zo_96 zkX3_addPost_32 28 rfl rfl
theorem dX3_addPost_61 : decode cX3_addPost 61 = .ok (.iastore, 1) := zq_0 zo_79 zkX3_addPost_32 29 rfl rfl
theorem dX3_addPost_62 : decode cX3_addPost 62 = .ok (.aload_n 0, 1) := zq_0 zo_42 zkX3_addPost_32 30 rfl rfl
theorem dX3_addPost_63 : decode cX3_addPost 63 = .ok (.getfield 15, 3) := zq_2 zo_180 zkX3_addPost_32 31 rfl rfl 0 15 rfl rfl _ rfl
theorem zkX3_addPost_64 : zqc cX3_addPost 64 [0, 15, 21, 5, 42, 180, 0, 15, 21, 5, 29, 100, 46, 4, 27, 120, 128, 79, 132, 5, 255, 167, 255, 181, 177] := zq_of 25 (by decide +kernel)
theorem dX3_addPost_66 : decode cX3_addPost 66 = .ok (.iload 5, 2) := zq_1 zo_21 zkX3_addPost_64 2 rfl rfl 5 rfl
theorem dX3_addPost_68 : decode cX3_addPost 68 = .ok (.aload_n 0, 1) := zq_0 zo_42 zkX3_addPost_64 4 rfl rfl
theorem dX3_addPost_69 : decode cX3_addPost 69 = .ok (.getfield 15, 3) := zq_2 zo_180 zkX3_addPost_64 5 rfl rfl 0 15 rfl rfl _ rfl
theorem dX3_addPost_72 : decode cX3_addPost 72 = .ok (.iload 5, 2) := zq_1 zo_21 zkX3_addPost_64 8 rfl rfl 5 rfl
theorem dX3_addPost_74 : decode cX3_addPost 74 = .ok (.iload_n 3, 1) := zq_0 zo_29 zkX3_addPost_64 10 rfl rfl
theorem dX3_addPost_75 : decode cX3_addPost 75 = .ok (.isub, 1) := zq_0 zo_100 zkX3_addPost_64 11 rfl rfl
theorem dX3_addPost_76 : decode cX3_addPost 76 = .ok (.iaload, 1) := zq_0 zo_46 zkX3_addPost_64 12 rfl rfl
theorem dX3_addPost_77 : decode cX3_addPost 77 = .ok (.iconst 1, 1) := zq_0 zo_4 zkX3_addPost_64 13 rfl rfl
theorem dX3_addPost_78 : decode cX3_addPost 78 = .ok (.iload_n 1, 1) := zq_0 zo_27 zkX3_addPost_64 14 rfl rfl
theorem dX3_addPost_79 : decode cX3_addPost 79 = .ok (.ishl, 1) := zq_0 zo_120 zkX3_addPost_64 15 rfl rfl
theorem dX3_addPost_80 : decode cX3_addPost 80 = .ok (.ior, 1) := zq_0 zo_128 zkX3_addPost_64 16 rfl rfl
theorem dX3_addPost_81 : decode cX3_addPost 81 = .ok (.iastore, 1) := zq_0 zo_79 zkX3_addPost_64 17 rfl rfl
theorem dX3_addPost_82 : decode cX3_addPost 82 = .ok (.iinc 5 (-1), 3) := zq_ii zo_132 zkX3_addPost_64 18 rfl rfl 5 255 rfl rfl _ (by decide +kernel)
theorem dX3_addPost_85 : decode cX3_addPost 85 = .ok (.goto (-75), 3) := zq_2s zo_167 zkX3_addPost_64 21 rfl rfl 255 181 rfl rfl _ (by decide +kernel)
theorem dX3_addPost_88 : decode cX3_addPost 88 = .ok (.return_, 1) := zq_0 zo_177 zkX3_addPost_64 24 rfl rfl
theorem zkX3_bestCosts_0 : zqc cX3_bestCosts 0 [3, 61, 4, 62, 29, 27, 163, 0, 33, 29, 17, 3, 231, 163, 0, 26, 42, 180, 0, 9, 29, 46, 42, 180, 0, 9, 28, 46, 164, 0, 5, 29, 61, 132] := zq_of 34 (by decide +kernel)
theorem dX3_bestCosts_0 : decode cX3_bestCosts 0 = .ok (.iconst 0, 1) := zq_0 zo_3 zkX3_bestCosts_0 0 rfl rfl
theorem dX3_bestCosts_1 : decode cX3_bestCosts 1 = .ok (.istore_n 2, 1) := zq_0 zo_61 zkX3_bestCosts_0 1 rfl rfl
theorem dX3_bestCosts_2 : decode cX3_bestCosts 2 = .ok (.iconst 1, 1) := zq_0 zo_4 zkX3_bestCosts_0 2 rfl rfl
theorem dX3_bestCosts_3 : decode cX3_bestCosts 3 = .ok (.istore_n 3, 1) := zq_0 zo_62 zkX3_bestCosts_0 3 rfl rfl
theorem dX3_bestCosts_4 : decode cX3_bestCosts 4 = .ok (.iload_n 3, 1) := zq_0 zo_29 zkX3_bestCosts_0 4 rfl rfl
theorem dX3_bestCosts_5 : decode cX3_bestCosts 5 = .ok (.iload_n 1, 1) := zq_0 zo_27 zkX3_bestCosts_0 5 rfl rfl
theorem dX3_bestCosts_6 : decode cX3_bestCosts 6 = .ok (.if_icmp .gt 33, 3) := zq_2s zo_163 zkX3_bestCosts_0 6 rfl rfl 0 33 rfl rfl _ (by decide +kernel)
theorem dX3_bestCosts_9 : decode cX3_bestCosts 9 = .ok (.iload_n 3, 1) := zq_0 zo_29 zkX3_bestCosts_0 9 rfl rfl
theorem dX3_bestCosts_10 : decode cX3_bestCosts 10 = .ok (.sipush 999, 3) := zq_2s zo_17 zkX3_bestCosts_0 10 rfl rfl 3 231 rfl rfl _ (by decide +kernel)
theorem dX3_bestCosts_13 : decode cX3_bestCosts 13 = .ok (.if_icmp .gt 26, 3) := zq_2s zo_163 zkX3_bestCosts_0 13 rfl rfl 0 26 rfl rfl _ (by decide +kernel)
theorem dX3_bestCosts_16 : decode cX3_bestCosts 16 = .ok (.aload_n 0, 1) := zq_0 zo_42 zkX3_bestCosts_0 16 rfl rfl
theorem dX3_bestCosts_17 : decode cX3_bestCosts 17 = .ok (.getfield 9, 3) := zq_2 zo_180 zkX3_bestCosts_0 17 rfl rfl 0 9 rfl rfl _ rfl
theorem dX3_bestCosts_20 : decode cX3_bestCosts 20 = .ok (.iload_n 3, 1) := zq_0 zo_29 zkX3_bestCosts_0 20 rfl rfl
theorem dX3_bestCosts_21 : decode cX3_bestCosts 21 = .ok (.iaload, 1) := zq_0 zo_46 zkX3_bestCosts_0 21 rfl rfl
theorem dX3_bestCosts_22 : decode cX3_bestCosts 22 = .ok (.aload_n 0, 1) := zq_0 zo_42 zkX3_bestCosts_0 22 rfl rfl
theorem dX3_bestCosts_23 : decode cX3_bestCosts 23 = .ok (.getfield 9, 3) := zq_2 zo_180 zkX3_bestCosts_0 23 rfl rfl 0 9 rfl rfl _ rfl
theorem dX3_bestCosts_26 : decode cX3_bestCosts 26 = .ok (.iload_n 2, 1) := zq_0 zo_28 zkX3_bestCosts_0 26 rfl rfl
theorem dX3_bestCosts_27 : decode cX3_bestCosts 27 = .ok (.iaload, 1) := zq_0 zo_46 zkX3_bestCosts_0 27 rfl rfl
theorem dX3_bestCosts_28 : decode cX3_bestCosts 28 = .ok (.if_icmp .le 5, 3) := zq_2s zo_164 zkX3_bestCosts_0 28 rfl rfl 0 5 rfl rfl _ (by decide +kernel)
theorem dX3_bestCosts_31 : decode cX3_bestCosts 31 = .ok (.iload_n 3, 1) := zq_0 zo_29 zkX3_bestCosts_0 31 rfl rfl
theorem zkX3_bestCosts_32 : zqc cX3_bestCosts 32 [61, 132, 3, 1, 167, 255, 224, 28, 172] := zq_of 9 (by decide +kernel)
theorem dX3_bestCosts_32 : decode cX3_bestCosts 32 = .ok (.istore_n 2, 1) := zq_0 zo_61 zkX3_bestCosts_32 0 rfl rfl
theorem dX3_bestCosts_33 : decode cX3_bestCosts 33 = .ok (.iinc 3 1, 3) := zq_ii zo_132 zkX3_bestCosts_32 1 rfl rfl 3 1 rfl rfl _ (by decide +kernel)
theorem dX3_bestCosts_36 : decode cX3_bestCosts 36 = .ok (.goto (-32), 3) := zq_2s zo_167 zkX3_bestCosts_32 4 rfl rfl 255 224 rfl rfl _ (by decide +kernel)
theorem dX3_bestCosts_39 : decode cX3_bestCosts 39 = .ok (.iload_n 2, 1) := zq_0 zo_28 zkX3_bestCosts_32 7 rfl rfl
theorem dX3_bestCosts_40 : decode cX3_bestCosts 40 = .ok (.ireturn, 1) := zq_0 zo_172 zkX3_bestCosts_32 8 rfl rfl
theorem zkX4_init_0 : zqc cX4_init 0 [42, 183, 0, 3, 42, 187, 0, 9, 89, 183, 0, 11, 181, 0, 12, 42, 187, 0, 18, 89, 183, 0, 20, 181, 0, 21, 42, 16, 6, 188, 10, 181, 0, 25] := zq_of 34 (by decide +kernel)
theorem dX4_init_0 : decode cX4_init 0 = .ok (.aload_n 0, 1) := zq_0 zo_42 zkX4_init_0 0 rfl rfl
theorem dX4_init_1 : decode cX4_init 1 = .ok (.invokespecial 3, 3) := zq_2 zo_183 zkX4_init_0 1 rfl rfl 0 3 rfl rfl _ rfl
theorem dX4_init_4 : decode cX4_init 4 = .ok (.aload_n 0, 1) := zq_0 zo_42 zkX4_init_0 4 rfl rfl
theorem dX4_init_5 : decode cX4_init 5 = .ok (.new 9, 3) := zq_2 zo_187 zkX4_init_0 5 rfl rfl 0 9 rfl rfl _ rfl
theorem dX4_init_8 : decode cX4_init 8 = .ok (.dup, 1) := zq_0 zo_89 zkX4_init_0 8 rfl rfl
theorem dX4_init_9 : decode cX4_init 9 = .ok (.invokespecial 11, 3) := zq_2 zo_183 zkX4_init_0 9 rfl rfl 0 11 rfl rfl _ rfl
theorem dX4_init_12 : decode cX4_init 12 = .ok (.putfield 12, 3) := zq_2 zo_181 zkX4_init_0 12 rfl rfl 0 12 rfl rfl _ rfl
theorem dX4_init_15 : decode cX4_init 15 = .ok (.aload_n 0, 1) := zq_0 zo_42 zkX4_init_0 15 rfl rfl
theorem dX4_init_16 : decode cX4_init 16 = .ok (.new 18, 3) := zq_2 zo_187 zkX4_init_0 16 rfl rfl 0 18 rfl rfl _ rfl
theorem dX4_init_19 : decode cX4_init 19 = .ok (.dup, 1) := zq_0 zo_89 zkX4_init_0 19 rfl rfl
theorem dX4_init_20 : decode cX4_init 20 = .ok (.invokespecial 20, 3) := zq_2 zo_183 zkX4_init_0 20 rfl rfl 0 20 rfl rfl _ rfl
theorem dX4_init_23 : decode cX4_init 23 = .ok (.putfield 21, 3) := zq_2 zo_181 zkX4_init_0 23 rfl rfl 0 21 rfl rfl _ rfl
theorem dX4_init_26 : decode cX4_init 26 = .ok (.aload_n 0, 1) := zq_0 zo_42 zkX4_init_0 26 rfl rfl
theorem dX4_init_27 : decode cX4_init 27 = .ok (.bipush 6, 2) := zq_1s zo_16 zkX4_init_0 27 rfl rfl 6 rfl _ (by decide +kernel)
theorem dX4_init_29 : decode cX4_init 29 = .ok (.newarray .int, 2) := by decide +kernel
theorem dX4_init_31 : decode cX4_init 31 = .ok (.putfield 25, 3) := zq_2 zo_181 zkX4_init_0 31 rfl rfl 0 25 rfl rfl _ rfl
theorem zkX4_init_32 : zqc cX4_init 32 [0, 25, 42, 16, 6, 188, 10, 181, 0, 29, 42, 17, 2, 88, 188, 8, 181, 0, 32, 177] := zq_of 20 (by decide +kernel)
theorem dX4_init_34 : decode cX4_init 34 = .ok (.aload_n 0, 1) := zq_0 zo_42 zkX4_init_32 2 rfl rfl
theorem dX4_init_35 : decode cX4_init 35 = .ok (.bipush 6, 2) := zq_1s zo_16 zkX4_init_32 3 rfl rfl 6 rfl _ (by decide +kernel)
theorem dX4_init_37 : decode cX4_init 37 = .ok (.newarray .int, 2) := by decide +kernel
theorem dX4_init_39 : decode cX4_init 39 = .ok (.putfield 29, 3) := zq_2 zo_181 zkX4_init_32 7 rfl rfl 0 29 rfl rfl _ rfl
theorem dX4_init_42 : decode cX4_init 42 = .ok (.aload_n 0, 1) := zq_0 zo_42 zkX4_init_32 10 rfl rfl
theorem dX4_init_43 : decode cX4_init 43 = .ok (.sipush 600, 3) := zq_2s zo_17 zkX4_init_32 11 rfl rfl 2 88 rfl rfl _ (by decide +kernel)
theorem dX4_init_46 : decode cX4_init 46 = .ok (.newarray .byte, 2) := by decide +kernel
theorem dX4_init_48 : decode cX4_init 48 = .ok (.putfield 32, 3) := zq_2 zo_181 zkX4_init_32 16 rfl rfl 0 32 rfl rfl _ rfl
theorem dX4_init_51 : decode cX4_init 51 = .ok (.return_, 1) := zq_0 zo_177 zkX4_init_32 19 rfl rfl
theorem zkX4_readTape_0 : zqc cX4_readTape 0 [42, 3, 28, 43, 190, 17, 2, 88, 184, 0, 36, 184, 0, 36, 184, 0, 42, 181, 0, 45, 43, 3, 42, 180, 0, 32, 3, 42, 180, 0, 45, 184, 0, 49] := zq_of 34 (by decide +kernel)
theorem dX4_readTape_0 : decode cX4_readTape 0 = .ok (.aload_n 0, 1) := zq_0 zo_42 zkX4_readTape_0 0 rfl rfl
theorem dX4_readTape_1 : decode cX4_readTape 1 = .ok (.iconst 0, 1) := zq_0 zo_3 zkX4_readTape_0 1 rfl rfl
theorem dX4_readTape_2 : decode cX4_readTape 2 = .ok (.iload_n 2, 1) := zq_0 zo_28 zkX4_readTape_0 2 rfl rfl
theorem dX4_readTape_3 : decode cX4_readTape 3 = .ok (.aload_n 1, 1) := zq_0 zo_43 zkX4_readTape_0 3 rfl rfl
theorem dX4_readTape_4 : decode cX4_readTape 4 = .ok (.arraylength, 1) := zq_0 zo_190 zkX4_readTape_0 4 rfl rfl
theorem dX4_readTape_5 : decode cX4_readTape 5 = .ok (.sipush 600, 3) := zq_2s zo_17 zkX4_readTape_0 5 rfl rfl 2 88 rfl rfl _ (by decide +kernel)
theorem dX4_readTape_8 : decode cX4_readTape 8 = .ok (.invokestatic 36, 3) := zq_2 zo_184 zkX4_readTape_0 8 rfl rfl 0 36 rfl rfl _ rfl
theorem dX4_readTape_11 : decode cX4_readTape 11 = .ok (.invokestatic 36, 3) := zq_2 zo_184 zkX4_readTape_0 11 rfl rfl 0 36 rfl rfl _ rfl
theorem dX4_readTape_14 : decode cX4_readTape 14 = .ok (.invokestatic 42, 3) := zq_2 zo_184 zkX4_readTape_0 14 rfl rfl 0 42 rfl rfl _ rfl
theorem dX4_readTape_17 : decode cX4_readTape 17 = .ok (.putfield 45, 3) := zq_2 zo_181 zkX4_readTape_0 17 rfl rfl 0 45 rfl rfl _ rfl
theorem dX4_readTape_20 : decode cX4_readTape 20 = .ok (.aload_n 1, 1) := zq_0 zo_43 zkX4_readTape_0 20 rfl rfl
theorem dX4_readTape_21 : decode cX4_readTape 21 = .ok (.iconst 0, 1) := zq_0 zo_3 zkX4_readTape_0 21 rfl rfl
theorem dX4_readTape_22 : decode cX4_readTape 22 = .ok (.aload_n 0, 1) := zq_0 zo_42 zkX4_readTape_0 22 rfl rfl
theorem dX4_readTape_23 : decode cX4_readTape 23 = .ok (.getfield 32, 3) := zq_2 zo_180 zkX4_readTape_0 23 rfl rfl 0 32 rfl rfl _ rfl
theorem dX4_readTape_26 : decode cX4_readTape 26 = .ok (.iconst 0, 1) := zq_0 zo_3 zkX4_readTape_0 26 rfl rfl
theorem dX4_readTape_27 : decode cX4_readTape 27 = .ok (.aload_n 0, 1) := zq_0 zo_42 zkX4_readTape_0 27 rfl rfl
theorem dX4_readTape_28 : decode cX4_readTape 28 = .ok (.getfield 45, 3) := zq_2 zo_180 zkX4_readTape_0 28 rfl rfl 0 45 rfl rfl _ rfl
theorem dX4_readTape_31 : decode cX4_readTape 31 = .ok (.invokestatic 49, 3) := zq_2 zo_184 zkX4_readTape_0 31 rfl rfl 0 49 rfl rfl _ rfl
theorem zkX4_readTape_32 : zqc cX4_readTape 32 [0, 49, 42, 3, 181, 0, 55, 42, 3, 181, 0, 58, 42, 2, 181, 0, 61, 42, 2, 181, 0, 64, 42, 180, 0, 12, 182, 0, 67, 42, 180, 0, 21, 3] := zq_of 34 (by decide +kernel)
theorem dX4_readTape_34 : decode cX4_readTape 34 = .ok (.aload_n 0, 1) := zq_0 zo_42 zkX4_readTape_32 2 rfl rfl
theorem dX4_readTape_35 : decode cX4_readTape 35 = .ok (.iconst 0, 1) := zq_0 zo_3 zkX4_readTape_32 3 rfl rfl
theorem dX4_readTape_36 : decode cX4_readTape 36 = .ok (.putfield 55, 3) := zq_2 zo_181 zkX4_readTape_32 4 rfl rfl 0 55 rfl rfl _ rfl
theorem dX4_readTape_39 : decode cX4_readTape 39 = .ok (.aload_n 0, 1) := zq_0 zo_42 zkX4_readTape_32 7 rfl rfl
theorem dX4_readTape_40 : decode cX4_readTape 40 = .ok (.iconst 0, 1) := zq_0 zo_3 zkX4_readTape_32 8 rfl rfl
theorem dX4_readTape_41 : decode cX4_readTape 41 = .ok (.putfield 58, 3) := zq_2 zo_181 zkX4_readTape_32 9 rfl rfl 0 58 rfl rfl _ rfl
theorem dX4_readTape_44 : decode cX4_readTape 44 = .ok (.aload_n 0, 1) := zq_0 zo_42 zkX4_readTape_32 12 rfl rfl
theorem dX4_readTape_45 : decode cX4_readTape 45 = .ok (.iconst (-1), 1) := zq_0 zo_2 zkX4_readTape_32 13 rfl rfl
theorem dX4_readTape_46 : decode cX4_readTape 46 = .ok (.putfield 61, 3) := zq_2 zo_181 zkX4_readTape_32 14 rfl rfl 0 61 rfl rfl _ rfl
theorem dX4_readTape_49 : decode cX4_readTape 49 = .ok (.aload_n 0, 1) := zq_0 zo_42 zkX4_readTape_32 17 rfl rfl
theorem dX4_readTape_50 : decode cX4_readTape 50 = .ok (.iconst (-1), 1) := zq_0 zo_2 zkX4_readTape_32 18 rfl rfl
theorem dX4_readTape_51 : decode cX4_readTape 51 = .ok (.putfield 64, 3) := zq_2 zo_181 zkX4_readTape_32 19 rfl rfl 0 64 rfl rfl _ rfl
theorem dX4_readTape_54 : decode cX4_readTape 54 = .ok (.aload_n 0, 1) := zq_0 zo_42 zkX4_readTape_32 22 rfl rfl
theorem dX4_readTape_55 : decode cX4_readTape 55 = .ok (.getfield 12, 3) := zq_2 zo_180 zkX4_readTape_32 23 rfl rfl 0 12 rfl rfl _ rfl
theorem dX4_readTape_58 : decode cX4_readTape 58 = .ok (.invokevirtual 67, 3) := zq_2 zo_182 zkX4_readTape_32 26 rfl rfl 0 67 rfl rfl _ rfl
theorem dX4_readTape_61 : decode cX4_readTape 61 = .ok (.aload_n 0, 1) := zq_0 zo_42 zkX4_readTape_32 29 rfl rfl
theorem dX4_readTape_62 : decode cX4_readTape 62 = .ok (.getfield 21, 3) := zq_2 zo_180 zkX4_readTape_32 30 rfl rfl 0 21 rfl rfl _ rfl
theorem zkX4_readTape_64 : zqc cX4_readTape 64 [21, 3, 181, 0, 70, 42, 29, 182, 0, 73, 29, 154, 0, 37, 42, 180, 0, 12, 180, 0, 77, 5, 161, 0, 17, 42, 180, 0, 64, 42, 180, 0, 12, 180] := zq_of 34 (by decide +kernel)
theorem dX4_readTape_65 : decode cX4_readTape 65 = .ok (.iconst 0, 1) := zq_0 zo_3 zkX4_readTape_64 1 rfl rfl
theorem dX4_readTape_66 : decode cX4_readTape 66 = .ok (.putfield 70, 3) := zq_2 zo_181 zkX4_readTape_64 2 rfl rfl 0 70 rfl rfl _ rfl
theorem dX4_readTape_69 : decode cX4_readTape 69 = .ok (.aload_n 0, 1) := zq_0 zo_42 zkX4_readTape_64 5 rfl rfl
theorem dX4_readTape_70 : decode cX4_readTape 70 = .ok (.iload_n 3, 1) := zq_0 zo_29 zkX4_readTape_64 6 rfl rfl
theorem dX4_readTape_71 : decode cX4_readTape 71 = .ok (.invokevirtual 73, 3) := zq_2 zo_182 zkX4_readTape_64 7 rfl rfl 0 73 rfl rfl _ rfl
theorem dX4_readTape_74 : decode cX4_readTape 74 = .ok (.iload_n 3, 1) := zq_0 zo_29 zkX4_readTape_64 10 rfl rfl
theorem dX4_readTape_75 : decode cX4_readTape 75 = .ok (.ifCond .ne 37, 3) := zq_2s zo_154 zkX4_readTape_64 11 rfl rfl 0 37 rfl rfl _ (by decide +kernel)
theorem dX4_readTape_78 : decode cX4_readTape 78 = .ok (.aload_n 0, 1) := zq_0 zo_42 zkX4_readTape_64 14 rfl rfl
theorem dX4_readTape_79 : decode cX4_readTape 79 = .ok (.getfield 12, 3) := zq_2 zo_180 zkX4_readTape_64 15 rfl rfl 0 12 rfl rfl _ rfl
theorem dX4_readTape_82 : decode cX4_readTape 82 = .ok (.getfield 77, 3) := zq_2 zo_180 zkX4_readTape_64 18 rfl rfl 0 77 rfl rfl _ rfl
theorem dX4_readTape_85 : decode cX4_readTape 85 = .ok (.iconst 2, 1) := zq_0 zo_5 zkX4_readTape_64 21 rfl rfl
theorem dX4_readTape_86 : decode cX4_readTape 86 = .ok (.if_icmp .lt 17, 3) := zq_2s zo_161 zkX4_readTape_64 22 rfl rfl 0 17 rfl rfl _ (by decide +kernel)
theorem dX4_readTape_89 : decode cX4_readTape 89 = .ok (.aload_n 0, 1) := zq_0 zo_42 zkX4_readTape_64 25 rfl rfl
theorem dX4_readTape_90 : decode cX4_readTape 90 = .ok (.getfield 64, 3) := zq_2 zo_180 zkX4_readTape_64 26 rfl rfl 0 64 rfl rfl _ rfl
theorem dX4_readTape_93 : decode cX4_readTape 93 = .ok (.aload_n 0, 1) := zq_0 zo_42 zkX4_readTape_64 29 rfl rfl
theorem dX4_readTape_94 : decode cX4_readTape 94 = .ok (.getfield 12, 3) := zq_2 zo_180 zkX4_readTape_64 30 rfl rfl 0 12 rfl rfl _ rfl
theorem zkX4_readTape_96 : zqc cX4_readTape 96 [12, 180, 0, 77, 161, 0, 12, 42, 7, 42, 180, 0, 45, 182, 0, 80, 177] := zq_of 17 (by decide +kernel)
theorem dX4_readTape_97 : decode cX4_readTape 97 = .ok (.getfield 77, 3) := zq_2 zo_180 zkX4_readTape_96 1 rfl rfl 0 77 rfl rfl _ rfl
theorem dX4_readTape_100 : decode cX4_readTape 100 = .ok (.if_icmp .lt 12, 3) := zq_2s zo_161 zkX4_readTape_96 4 rfl rfl 0 12 rfl rfl _ (by decide +kernel)
theorem dX4_readTape_103 : decode cX4_readTape 103 = .ok (.aload_n 0, 1) := zq_0 zo_42 zkX4_readTape_96 7 rfl rfl
theorem dX4_readTape_104 : decode cX4_readTape 104 = .ok (.iconst 4, 1) := zq_0 zo_7 zkX4_readTape_96 8 rfl rfl
theorem dX4_readTape_105 : decode cX4_readTape 105 = .ok (.aload_n 0, 1) := zq_0 zo_42 zkX4_readTape_96 9 rfl rfl
theorem dX4_readTape_106 : decode cX4_readTape 106 = .ok (.getfield 45, 3) := zq_2 zo_180 zkX4_readTape_96 10 rfl rfl 0 45 rfl rfl _ rfl
theorem dX4_readTape_109 : decode cX4_readTape 109 = .ok (.invokevirtual 80, 3) := zq_2 zo_182 zkX4_readTape_96 13 rfl rfl 0 80 rfl rfl _ rfl
theorem dX4_readTape_112 : decode cX4_readTape 112 = .ok (.return_, 1) := zq_0 zo_177 zkX4_readTape_96 16 rfl rfl
theorem zkX4_readRows_0 : zqc cX4_readRows 0 [3, 61, 28, 17, 2, 88, 163, 0, 81, 42, 182, 0, 84, 42, 180, 0, 87, 154, 0, 4, 177, 42, 180, 0, 90, 62, 42, 180, 0, 87, 4, 160, 0, 11] := zq_of 34 (by decide +kernel)
theorem dX4_readRows_0 : decode cX4_readRows 0 = .ok (.iconst 0, 1) := zq_0 zo_3 zkX4_readRows_0 0 rfl rfl
theorem dX4_readRows_1 : decode cX4_readRows 1 = .ok (.istore_n 2, 1) := zq_0 zo_61 zkX4_readRows_0 1 rfl rfl
theorem dX4_readRows_2 : decode cX4_readRows 2 = .ok (.iload_n 2, 1) := zq_0 zo_28 zkX4_readRows_0 2 rfl rfl
theorem dX4_readRows_3 : decode cX4_readRows 3 = .ok (.sipush 600, 3) := zq_2s zo_17 zkX4_readRows_0 3 rfl rfl 2 88 rfl rfl _ (by decide +kernel)
theorem dX4_readRows_6 : decode cX4_readRows 6 = .ok (.if_icmp .gt 81, 3) := zq_2s zo_163 zkX4_readRows_0 6 rfl rfl 0 81 rfl rfl _ (by decide +kernel)
theorem dX4_readRows_9 : decode cX4_readRows 9 = .ok (.aload_n 0, 1) := zq_0 zo_42 zkX4_readRows_0 9 rfl rfl
theorem dX4_readRows_10 : decode cX4_readRows 10 = .ok (.invokevirtual 84, 3) := zq_2 zo_182 zkX4_readRows_0 10 rfl rfl 0 84 rfl rfl _ rfl
theorem dX4_readRows_13 : decode cX4_readRows 13 = .ok (.aload_n 0, 1) := zq_0 zo_42 zkX4_readRows_0 13 rfl rfl
theorem dX4_readRows_14 : decode cX4_readRows 14 = .ok (.getfield 87, 3) := zq_2 zo_180 zkX4_readRows_0 14 rfl rfl 0 87 rfl rfl _ rfl
theorem dX4_readRows_17 : decode cX4_readRows 17 = .ok (.ifCond .ne 4, 3) := zq_2s zo_154 zkX4_readRows_0 17 rfl rfl 0 4 rfl rfl _ (by decide +kernel)
theorem dX4_readRows_20 : decode cX4_readRows 20 = .ok (.return_, 1) := zq_0 zo_177 zkX4_readRows_0 20 rfl rfl
theorem dX4_readRows_21 : decode cX4_readRows 21 = .ok (.aload_n 0, 1) := zq_0 zo_42 zkX4_readRows_0 21 rfl rfl
theorem dX4_readRows_22 : decode cX4_readRows 22 = .ok (.getfield 90, 3) := zq_2 zo_180 zkX4_readRows_0 22 rfl rfl 0 90 rfl rfl _ rfl
theorem dX4_readRows_25 : decode cX4_readRows 25 = .ok (.istore_n 3, 1) := zq_0 zo_62 zkX4_readRows_0 25 rfl rfl
theorem dX4_readRows_26 : decode cX4_readRows 26 = .ok (.aload_n 0, 1) := zq_0 zo_42 zkX4_readRows_0 26 rfl rfl
theorem dX4_readRows_27 : decode cX4_readRows 27 = .ok (.getfield 87, 3) := zq_2 zo_180 zkX4_readRows_0 27 rfl rfl 0 87 rfl rfl _ rfl
theorem dX4_readRows_30 : decode cX4_readRows 30 = .ok (.iconst 1, 1) := zq_0 zo_4 zkX4_readRows_0 30 rfl rfl
theorem dX4_readRows_31 : decode cX4_readRows 31 = .ok (.if_icmp .ne 11, 3) := zq_2s zo_160 zkX4_readRows_0 31 rfl rfl 0 11 rfl rfl _ (by decide +kernel)
theorem zkX4_readRows_32 : zqc cX4_readRows 32 [0, 11, 42, 27, 182, 0, 93, 167, 0, 4, 2, 54, 4, 21, 4, 2, 159, 0, 12, 42, 21, 4, 182, 0, 97, 154, 0, 17, 42, 4, 181, 0, 58, 42] := zq_of 34 (by decide +kernel)
theorem dX4_readRows_34 : decode cX4_readRows 34 = .ok (.aload_n 0, 1) := zq_0 zo_42 zkX4_readRows_32 2 rfl rfl
theorem dX4_readRows_35 : decode cX4_readRows 35 = .ok (.iload_n 1, 1) := zq_0 zo_27 zkX4_readRows_32 3 rfl rfl
theorem dX4_readRows_36 : decode cX4_readRows 36 = .ok (.invokevirtual 93, 3) := zq_2 zo_182 zkX4_readRows_32 4 rfl rfl 0 93 rfl rfl _ rfl
theorem dX4_readRows_39 : decode cX4_readRows 39 = .ok (.goto 4, 3) := zq_2s zo_167 zkX4_readRows_32 7 rfl rfl 0 4 rfl rfl _ (by decide +kernel)
theorem dX4_readRows_42 : decode cX4_readRows 42 = .ok (.iconst (-1), 1) := zq_0 zo_2 zkX4_readRows_32 10 rfl rfl
theorem dX4_readRows_43 : decode cX4_readRows 43 = .ok (.istore 4, 2) := zq_1 zo_54 zkX4_readRows_32 11 rfl rfl 4 rfl
theorem dX4_readRows_45 : decode cX4_readRows 45 = .ok (.iload 4, 2) := zq_1 zo_21 zkX4_readRows_32 13 rfl rfl 4 rfl
theorem dX4_readRows_47 : decode cX4_readRows 47 = .ok (.iconst (-1), 1) := zq_0 zo_2 zkX4_readRows_32 15 rfl rfl
theorem dX4_readRows_48 : decode cX4_readRows 48 = .ok (.if_icmp .eq 12, 3) := zq_2s zo_159 zkX4_readRows_32 16 rfl rfl 0 12 rfl rfl _ (by decide +kernel)
theorem dX4_readRows_51 : decode cX4_readRows 51 = .ok (.aload_n 0, 1) := zq_0 zo_42 zkX4_readRows_32 19 rfl rfl
theorem dX4_readRows_52 : decode cX4_readRows 52 = .ok (.iload 4, 2) := zq_1 zo_21 zkX4_readRows_32 20 rfl rfl 4 rfl
theorem dX4_readRows_54 : decode cX4_readRows 54 = .ok (.invokevirtual 97, 3) := zq_2 zo_182 zkX4_readRows_32 22 rfl rfl 0 97 rfl rfl _ rfl
theorem dX4_readRows_57 : decode cX4_readRows 57 = .ok (.ifCond .ne 17, 3) := zq_2s zo_154 zkX4_readRows_32 25 rfl rfl 0 17 rfl rfl _ (by decide +kernel)
theorem dX4_readRows_60 : decode cX4_readRows 60 = .ok (.aload_n 0, 1) := zq_0 zo_42 zkX4_readRows_32 28 rfl rfl
theorem dX4_readRows_61 : decode cX4_readRows 61 = .ok (.iconst 1, 1) := zq_0 zo_4 zkX4_readRows_32 29 rfl rfl
theorem dX4_readRows_62 : decode cX4_readRows 62 = .ok (.putfield 58, 3) := zq_2 zo_181 zkX4_readRows_32 30 rfl rfl 0 58 rfl rfl _ rfl
theorem zkX4_readRows_64 : zqc cX4_readRows 64 [58, 42, 42, 180, 0, 90, 181, 0, 61, 177, 42, 21, 4, 29, 182, 0, 101, 132, 2, 1, 167, 255, 174, 177] := zq_of 24 (by decide +kernel)
theorem dX4_readRows_65 : decode cX4_readRows 65 = .ok (.aload_n 0, 1) := zq_0 zo_42 zkX4_readRows_64 1 rfl rfl
theorem dX4_readRows_66 : decode cX4_readRows 66 = .ok (.aload_n 0, 1) := zq_0 zo_42 zkX4_readRows_64 2 rfl rfl
theorem dX4_readRows_67 : decode cX4_readRows 67 = .ok (.getfield 90, 3) := zq_2 zo_180 zkX4_readRows_64 3 rfl rfl 0 90 rfl rfl _ rfl
theorem dX4_readRows_70 : decode cX4_readRows 70 = .ok (.putfield 61, 3) := zq_2 zo_181 zkX4_readRows_64 6 rfl rfl 0 61 rfl rfl _ rfl
theorem dX4_readRows_73 : decode cX4_readRows 73 = .ok (.return_, 1) := zq_0 zo_177 zkX4_readRows_64 9 rfl rfl
theorem dX4_readRows_74 : decode cX4_readRows 74 = .ok (.aload_n 0, 1) := zq_0 zo_42 zkX4_readRows_64 10 rfl rfl
theorem dX4_readRows_75 : decode cX4_readRows 75 = .ok (.iload 4, 2) := zq_1 zo_21 zkX4_readRows_64 11 rfl rfl 4 rfl
theorem dX4_readRows_77 : decode cX4_readRows 77 = .ok (.iload_n 3, 1) := zq_0 zo_29 zkX4_readRows_64 13 rfl rfl
theorem dX4_readRows_78 : decode cX4_readRows 78 = .ok (.invokevirtual 101, 3) := zq_2 zo_182 zkX4_readRows_64 14 rfl rfl 0 101 rfl rfl _ rfl
theorem dX4_readRows_81 : decode cX4_readRows 81 = .ok (.iinc 2 1, 3) := zq_ii zo_132 zkX4_readRows_64 17 rfl rfl 2 1 rfl rfl _ (by decide +kernel)
theorem dX4_readRows_84 : decode cX4_readRows 84 = .ok (.goto (-82), 3) := zq_2s zo_167 zkX4_readRows_64 20 rfl rfl 255 174 rfl rfl _ (by decide +kernel)
theorem dX4_readRows_87 : decode cX4_readRows 87 = .ok (.return_, 1) := zq_0 zo_177 zkX4_readRows_64 23 rfl rfl
theorem zkX4_nextToken_0 : zqc cX4_nextToken 0 [42, 180, 0, 55, 42, 180, 0, 45, 162, 0, 44, 42, 180, 0, 32, 42, 180, 0, 55, 51, 16, 32, 159, 0, 17, 42, 180, 0, 32, 42, 180, 0, 55, 51] := zq_of 34 (by decide +kernel)
theorem dX4_nextToken_0 : decode cX4_nextToken 0 = .ok (.aload_n 0, 1) := zq_0 zo_42 zkX4_nextToken_0 0 rfl rfl
theorem dX4_nextToken_1 : decode cX4_nextToken 1 = .ok (.getfield 55, 3) := zq_2 zo_180 zkX4_nextToken_0 1 rfl rfl 0 55 rfl rfl _ rfl
theorem dX4_nextToken_4 : decode cX4_nextToken 4 = .ok (.aload_n 0, 1) := zq_0 zo_42 zkX4_nextToken_0 4 rfl rfl
theorem dX4_nextToken_5 : decode cX4_nextToken 5 = .ok (.getfield 45, 3) := zq_2 zo_180 zkX4_nextToken_0 5 rfl rfl 0 45 rfl rfl _ rfl
theorem dX4_nextToken_8 : decode cX4_nextToken 8 = .ok (.if_icmp .ge 44, 3) := zq_2s zo_162 zkX4_nextToken_0 8 rfl rfl 0 44 rfl rfl _ (by decide +kernel)
theorem dX4_nextToken_11 : decode cX4_nextToken 11 = .ok (.aload_n 0, 1) := zq_0 zo_42 zkX4_nextToken_0 11 rfl rfl
theorem dX4_nextToken_12 : decode cX4_nextToken 12 = .ok (.getfield 32, 3) := zq_2 zo_180 zkX4_nextToken_0 12 rfl rfl 0 32 rfl rfl _ rfl
theorem dX4_nextToken_15 : decode cX4_nextToken 15 = .ok (.aload_n 0, 1) := zq_0 zo_42 zkX4_nextToken_0 15 rfl rfl
theorem dX4_nextToken_16 : decode cX4_nextToken 16 = .ok (.getfield 55, 3) := zq_2 zo_180 zkX4_nextToken_0 16 rfl rfl 0 55 rfl rfl _ rfl
theorem dX4_nextToken_19 : decode cX4_nextToken 19 = .ok (.baload, 1) := zq_0 zo_51 zkX4_nextToken_0 19 rfl rfl
theorem dX4_nextToken_20 : decode cX4_nextToken 20 = .ok (.bipush 32, 2) := zq_1s zo_16 zkX4_nextToken_0 20 rfl rfl 32 rfl _ (by decide +kernel)
theorem dX4_nextToken_22 : decode cX4_nextToken 22 = .ok (.if_icmp .eq 17, 3) := zq_2s zo_159 zkX4_nextToken_0 22 rfl rfl 0 17 rfl rfl _ (by decide +kernel)
theorem dX4_nextToken_25 : decode cX4_nextToken 25 = .ok (.aload_n 0, 1) := zq_0 zo_42 zkX4_nextToken_0 25 rfl rfl
theorem dX4_nextToken_26 : decode cX4_nextToken 26 = .ok (.getfield 32, 3) := zq_2 zo_180 zkX4_nextToken_0 26 rfl rfl 0 32 rfl rfl _ rfl
theorem dX4_nextToken_29 : decode cX4_nextToken 29 = .ok (.aload_n 0, 1) := zq_0 zo_42 zkX4_nextToken_0 29 rfl rfl
theorem dX4_nextToken_30 : decode cX4_nextToken 30 = .ok (.getfield 55, 3) := zq_2 zo_180 zkX4_nextToken_0 30 rfl rfl 0 55 rfl rfl _ rfl
theorem zkX4_nextToken_32 : zqc cX4_nextToken 32 [55, 51, 16, 10, 160, 0, 16, 42, 89, 180, 0, 55, 4, 96, 181, 0, 55, 167, 255, 207, 42, 42, 180, 0, 55, 181, 0, 90, 42, 180, 0, 55, 42, 180] := zq_of 34 (by decide +kernel)
theorem dX4_nextToken_33 : decode cX4_nextToken 33 = .ok (.baload, 1) := zq_0 zo_51 zkX4_nextToken_32 1 rfl rfl
theorem dX4_nextToken_34 : decode cX4_nextToken 34 = .ok (.bipush 10, 2) := zq_1s zo_16 zkX4_nextToken_32 2 rfl rfl 10 rfl _ (by decide +kernel)
theorem dX4_nextToken_36 : decode cX4_nextToken 36 = .ok (.if_icmp .ne 16, 3) := zq_2s zo_160 zkX4_nextToken_32 4 rfl rfl 0 16 rfl rfl _ (by decide +kernel)
theorem dX4_nextToken_39 : decode cX4_nextToken 39 = .ok (.aload_n 0, 1) := zq_0 zo_42 zkX4_nextToken_32 7 rfl rfl
theorem dX4_nextToken_40 : decode cX4_nextToken 40 = .ok (.dup, 1) := zq_0 zo_89 zkX4_nextToken_32 8 rfl rfl
theorem dX4_nextToken_41 : decode cX4_nextToken 41 = .ok (.getfield 55, 3) := zq_2 zo_180 zkX4_nextToken_32 9 rfl rfl 0 55 rfl rfl _ rfl
theorem dX4_nextToken_44 : decode cX4_nextToken 44 = .ok (.iconst 1, 1) := zq_0 zo_4 zkX4_nextToken_32 12 rfl rfl
theorem dX4_nextToken_45 : decode cX4_nextToken 45 = .ok (.iadd, 1) := zq_0 zo_96 zkX4_nextToken_32 13 rfl rfl
theorem dX4_nextToken_46 : decode cX4_nextToken 46 = .ok (.putfield 55, 3) := zq_2 zo_181 zkX4_nextToken_32 14 rfl rfl 0 55 rfl rfl _ rfl
theorem dX4_nextToken_49 : decode cX4_nextToken 49 = .ok (.goto (-49), 3) := zq_2s zo_167 zkX4_nextToken_32 17 rfl rfl 255 207 rfl rfl _ (by decide +kernel)
theorem dX4_nextToken_52 : decode cX4_nextToken 52 = .ok (.aload_n 0, 1) := zq_0 zo_42 zkX4_nextToken_32 20 rfl rfl
theorem dX4_nextToken_53 : decode cX4_nextToken 53 = .ok (.aload_n 0, 1) := zq_0 zo_42 zkX4_nextToken_32 21 rfl rfl
theorem dX4_nextToken_54 : decode cX4_nextToken 54 = .ok (.getfield 55, 3) := zq_2 zo_180 zkX4_nextToken_32 22 rfl rfl 0 55 rfl rfl _ rfl
theorem dX4_nextToken_57 : decode cX4_nextToken 57 = .ok (.putfield 90, 3) := zq_2 zo_181 zkX4_nextToken_32 25 rfl rfl 0 90 rfl rfl _ rfl
theorem dX4_nextToken_60 : decode cX4_nextToken 60 = .ok (.aload_n 0, 1) := zq_0 zo_42 zkX4_nextToken_32 28 rfl rfl
theorem dX4_nextToken_61 : decode cX4_nextToken 61 = .ok (.getfield 55, 3) := zq_2 zo_180 zkX4_nextToken_32 29 rfl rfl 0 55 rfl rfl _ rfl
theorem zkX4_nextToken_64 : zqc cX4_nextToken 64 [42, 180, 0, 45, 161, 0, 11, 42, 3, 181, 0, 87, 167, 0, 105, 42, 42, 180, 0, 55, 182, 0, 104, 153, 0, 43, 42, 4, 181, 0, 87, 42, 180, 0] := zq_of 34 (by decide +kernel)
theorem dX4_nextToken_64 : decode cX4_nextToken 64 = .ok (.aload_n 0, 1) := zq_0 zo_42 zkX4_nextToken_64 0 rfl rfl
theorem dX4_nextToken_65 : decode cX4_nextToken 65 = .ok (.getfield 45, 3) := zq_2 zo_180 zkX4_nextToken_64 1 rfl rfl 0 45 rfl rfl _ rfl
theorem dX4_nextToken_68 : decode cX4_nextToken 68 = .ok (.if_icmp .lt 11, 3) := zq_2s zo_161 zkX4_nextToken_64 4 rfl rfl 0 11 rfl rfl _ (by decide +kernel)
theorem dX4_nextToken_71 : decode cX4_nextToken 71 = .ok (.aload_n 0, 1) := zq_0 zo_42 zkX4_nextToken_64 7 rfl rfl
theorem dX4_nextToken_72 : decode cX4_nextToken 72 = .ok (.iconst 0, 1) := zq_0 zo_3 zkX4_nextToken_64 8 rfl rfl
theorem dX4_nextToken_73 : decode cX4_nextToken 73 = .ok (.putfield 87, 3) := zq_2 zo_181 zkX4_nextToken_64 9 rfl rfl 0 87 rfl rfl _ rfl
theorem dX4_nextToken_76 : decode cX4_nextToken 76 = .ok (.goto 105, 3) := zq_2s zo_167 zkX4_nextToken_64 12 rfl rfl 0 105 rfl rfl _ (by decide +kernel)
theorem dX4_nextToken_79 : decode cX4_nextToken 79 = .ok (.aload_n 0, 1) := zq_0 zo_42 zkX4_nextToken_64 15 rfl rfl
theorem dX4_nextToken_80 : decode cX4_nextToken 80 = .ok (.aload_n 0, 1) := zq_0 zo_42 zkX4_nextToken_64 16 rfl rfl
theorem dX4_nextToken_81 : decode cX4_nextToken 81 = .ok (.getfield 55, 3) := zq_2 zo_180 zkX4_nextToken_64 17 rfl rfl 0 55 rfl rfl _ rfl
theorem dX4_nextToken_84 : decode cX4_nextToken 84 = .ok (.invokevirtual 104, 3) := zq_2 zo_182 zkX4_nextToken_64 20 rfl rfl 0 104 rfl rfl _ rfl
theorem dX4_nextToken_87 : decode cX4_nextToken 87 = .ok (.ifCond .eq 43, 3) := zq_2s zo_153 zkX4_nextToken_64 23 rfl rfl 0 43 rfl rfl _ (by decide +kernel)
theorem dX4_nextToken_90 : decode cX4_nextToken 90 = .ok (.aload_n 0, 1) := zq_0 zo_42 zkX4_nextToken_64 26 rfl rfl
theorem dX4_nextToken_91 : decode cX4_nextToken 91 = .ok (.iconst 1, 1) := zq_0 zo_4 zkX4_nextToken_64 27 rfl rfl
theorem dX4_nextToken_92 : decode cX4_nextToken 92 = .ok (.putfield 87, 3) := zq_2 zo_181 zkX4_nextToken_64 28 rfl rfl 0 87 rfl rfl _ rfl
theorem dX4_nextToken_95 : decode cX4_nextToken 95 = .ok (.aload_n 0, 1) := zq_0 zo_42 zkX4_nextToken_64 31 rfl rfl
theorem zkX4_nextToken_96 : zqc cX4_nextToken 96 [180, 0, 55, 42, 180, 0, 45, 162, 0, 78, 42, 42, 180, 0, 55, 182, 0, 104, 153, 0, 67, 42, 89, 180, 0, 55, 4, 96, 181, 0, 55, 167, 255, 224] := zq_of 34 (by decide +kernel)
theorem dX4_nextToken_96 : decode cX4_nextToken 96 = .ok (.getfield 55, 3) := zq_2 zo_180 zkX4_nextToken_96 0 rfl rfl 0 55 rfl rfl _ rfl
theorem dX4_nextToken_99 : decode cX4_nextToken 99 = .ok (.aload_n 0, 1) := zq_0 zo_42 zkX4_nextToken_96 3 rfl rfl
theorem dX4_nextToken_100 : decode cX4_nextToken 100 = .ok (.getfield 45, 3) := zq_2 zo_180 zkX4_nextToken_96 4 rfl rfl 0 45 rfl rfl _ rfl
theorem dX4_nextToken_103 : decode cX4_nextToken 103 = .ok (.if_icmp .ge 78, 3) := zq_2s zo_162 zkX4_nextToken_96 7 rfl rfl 0 78 rfl rfl _ (by decide +kernel)
theorem dX4_nextToken_106 : decode cX4_nextToken 106 = .ok (.aload_n 0, 1) := zq_0 zo_42 zkX4_nextToken_96 10 rfl rfl
theorem dX4_nextToken_107 : decode cX4_nextToken 107 = .ok (.aload_n 0, 1) := zq_0 zo_42 zkX4_nextToken_96 11 rfl rfl
theorem dX4_nextToken_108 : decode cX4_nextToken 108 = .ok (.getfield 55, 3) := zq_2 zo_180 zkX4_nextToken_96 12 rfl rfl 0 55 rfl rfl _ rfl
theorem dX4_nextToken_111 : decode cX4_nextToken 111 = .ok (.invokevirtual 104, 3) := zq_2 zo_182 zkX4_nextToken_96 15 rfl rfl 0 104 rfl rfl _ rfl
theorem dX4_nextToken_114 : decode cX4_nextToken 114 = .ok (.ifCond .eq 67, 3) := zq_2s zo_153 zkX4_nextToken_96 18 rfl rfl 0 67 rfl rfl _ (by decide +kernel)
theorem dX4_nextToken_117 : decode cX4_nextToken 117 = .ok (.aload_n 0, 1) := zq_0 zo_42 zkX4_nextToken_96 21 rfl rfl
theorem dX4_nextToken_118 : decode cX4_nextToken 118 = .ok (.dup, 1) := zq_0 zo_89 zkX4_nextToken_96 22 rfl rfl
theorem dX4_nextToken_119 : decode cX4_nextToken 119 = .ok (.getfield 55, 3) := zq_2 zo_180 zkX4_nextToken_96 23 rfl rfl 0 55 rfl rfl _ rfl
theorem dX4_nextToken_122 : decode cX4_nextToken 122 = .ok (.iconst 1, 1) := zq_0 zo_4 zkX4_nextToken_96 26 rfl rfl
theorem dX4_nextToken_123 : decode cX4_nextToken 123 = .ok (.iadd, 1) := zq_0 zo_96 zkX4_nextToken_96 27 rfl rfl
theorem dX4_nextToken_124 : decode cX4_nextToken 124 = .ok (.putfield 55, 3) := zq_2 zo_181 zkX4_nextToken_96 28 rfl rfl 0 55 rfl rfl _ rfl
theorem dX4_nextToken_127 : decode cX4_nextToken 127 = .ok (.goto (-32), 3) := zq_2s zo_167 zkX4_nextToken_96 31 rfl rfl 255 224 rfl rfl _ (by decide +kernel)
theorem zkX4_nextToken_128 : zqc cX4_nextToken 128 [255, 224, 42, 42, 180, 0, 55, 182, 0, 107, 153, 0, 10, 42, 182, 0, 110, 167, 0, 36, 42, 42, 180, 0, 32, 42, 180, 0, 55, 51, 16, 59, 160, 0] := zq_of 34 (by decide +kernel)
theorem dX4_nextToken_130 : decode cX4_nextToken 130 = .ok (.aload_n 0, 1) := zq_0 zo_42 zkX4_nextToken_128 2 rfl rfl
theorem dX4_nextToken_131 : decode cX4_nextToken 131 = .ok (.aload_n 0, 1) := zq_0 zo_42 zkX4_nextToken_128 3 rfl rfl
theorem dX4_nextToken_132 : decode cX4_nextToken 132 = .ok (.getfield 55, 3) := zq_2 zo_180 zkX4_nextToken_128 4 rfl rfl 0 55 rfl rfl _ rfl
theorem dX4_nextToken_135 : decode cX4_nextToken 135 = .ok (.invokevirtual 107, 3) := zq_2 zo_182 zkX4_nextToken_128 7 rfl rfl 0 107 rfl rfl _ rfl
theorem dX4_nextToken_138 : decode cX4_nextToken 138 = .ok (.ifCond .eq 10, 3) := zq_2s zo_153 zkX4_nextToken_128 10 rfl rfl 0 10 rfl rfl _ (by decide +kernel)
theorem dX4_nextToken_141 : decode cX4_nextToken 141 = .ok (.aload_n 0, 1) := zq_0 zo_42 zkX4_nextToken_128 13 rfl rfl
theorem dX4_nextToken_142 : decode cX4_nextToken 142 = .ok (.invokevirtual 110, 3) := zq_2 zo_182 zkX4_nextToken_128 14 rfl rfl 0 110 rfl rfl _ rfl
theorem dX4_nextToken_145 : decode cX4_nextToken 145 = .ok (.goto 36, 3) := zq_2s zo_167 zkX4_nextToken_128 17 rfl rfl 0 36 rfl rfl _ (by decide +kernel)
theorem dX4_nextToken_148 : decode cX4_nextToken 148 = .ok (.aload_n 0, 1) := zq_0 zo_42 zkX4_nextToken_128 20 rfl rfl
theorem dX4_nextToken_149 : decode cX4_nextToken 149 = .ok (.aload_n 0, 1) := zq_0 zo_42 zkX4_nextToken_128 21 rfl rfl
theorem dX4_nextToken_150 : decode cX4_nextToken 150 = .ok (.getfield 32, 3) := zq_2 zo_180 zkX4_nextToken_128 22 rfl rfl 0 32 rfl rfl _ rfl
theorem dX4_nextToken_153 : decode cX4_nextToken 153 = .ok (.aload_n 0, 1) := zq_0 zo_42 zkX4_nextToken_128 25 rfl rfl
theorem dX4_nextToken_154 : decode cX4_nextToken 154 = .ok (.getfield 55, 3) := zq_2 zo_180 zkX4_nextToken_128 26 rfl rfl 0 55 rfl rfl _ rfl
theorem dX4_nextToken_157 : decode cX4_nextToken 157 = .ok (.baload, 1) := zq_0 zo_51 zkX4_nextToken_128 29 rfl rfl
theorem dX4_nextToken_158 : decode cX4_nextToken 158 = .ok (.bipush 59, 2) := zq_1s zo_16 zkX4_nextToken_128 30 rfl rfl 59 rfl _ (by decide +kernel)
theorem zkX4_nextToken_160 : zqc cX4_nextToken 160 [160, 0, 7, 6, 167, 0, 4, 7, 181, 0, 87, 42, 89, 180, 0, 55, 4, 96, 181, 0, 55, 177] := zq_of 22 (by decide +kernel)
theorem dX4_nextToken_160 : decode cX4_nextToken 160 = .ok (.if_icmp .ne 7, 3) := zq_2s zo_160 zkX4_nextToken_160 0 rfl rfl 0 7 rfl rfl _ (by decide +kernel)
theorem dX4_nextToken_163 : decode cX4_nextToken 163 = .ok (.iconst 3, 1) := zq_0 zo_6 zkX4_nextToken_160 3 rfl rfl
theorem dX4_nextToken_164 : decode cX4_nextToken 164 = .ok (.goto 4, 3) := zq_2s zo_167 zkX4_nextToken_160 4 rfl rfl 0 4 rfl rfl _ (by decide +kernel)
theorem dX4_nextToken_167 : decode cX4_nextToken 167 = .ok (.iconst 4, 1) := zq_0 zo_7 zkX4_nextToken_160 7 rfl rfl
theorem dX4_nextToken_168 : decode cX4_nextToken 168 = .ok (.putfield 87, 3) := zq_2 zo_181 zkX4_nextToken_160 8 rfl rfl 0 87 rfl rfl _ rfl
theorem dX4_nextToken_171 : decode cX4_nextToken 171 = .ok (.aload_n 0, 1) := zq_0 zo_42 zkX4_nextToken_160 11 rfl rfl
theorem dX4_nextToken_172 : decode cX4_nextToken 172 = .ok (.dup, 1) := zq_0 zo_89 zkX4_nextToken_160 12 rfl rfl
theorem dX4_nextToken_173 : decode cX4_nextToken 173 = .ok (.getfield 55, 3) := zq_2 zo_180 zkX4_nextToken_160 13 rfl rfl 0 55 rfl rfl _ rfl
theorem dX4_nextToken_176 : decode cX4_nextToken 176 = .ok (.iconst 1, 1) := zq_0 zo_4 zkX4_nextToken_160 16 rfl rfl
theorem dX4_nextToken_177 : decode cX4_nextToken 177 = .ok (.iadd, 1) := zq_0 zo_96 zkX4_nextToken_160 17 rfl rfl
theorem dX4_nextToken_178 : decode cX4_nextToken 178 = .ok (.putfield 55, 3) := zq_2 zo_181 zkX4_nextToken_160 18 rfl rfl 0 55 rfl rfl _ rfl
theorem dX4_nextToken_181 : decode cX4_nextToken 181 = .ok (.return_, 1) := zq_0 zo_177 zkX4_nextToken_160 21 rfl rfl
theorem zkX4_takeDigits_0 : zqc cX4_takeDigits 0 [42, 3, 181, 0, 113, 42, 180, 0, 55, 42, 180, 0, 45, 162, 0, 51, 42, 42, 180, 0, 55, 182, 0, 107, 153, 0, 40, 42, 42, 180, 0, 113, 16, 10] := zq_of 34 (by decide +kernel)
theorem dX4_takeDigits_0 : decode cX4_takeDigits 0 = .ok (.aload_n 0, 1) := zq_0 zo_42 zkX4_takeDigits_0 0 rfl rfl
theorem dX4_takeDigits_1 : decode cX4_takeDigits 1 = .ok (.iconst 0, 1) := zq_0 zo_3 zkX4_takeDigits_0 1 rfl rfl
theorem dX4_takeDigits_2 : decode cX4_takeDigits 2 = .ok (.putfield 113, 3) := zq_2 zo_181 zkX4_takeDigits_0 2 rfl rfl 0 113 rfl rfl _ rfl
theorem dX4_takeDigits_5 : decode cX4_takeDigits 5 = .ok (.aload_n 0, 1) := zq_0 zo_42 zkX4_takeDigits_0 5 rfl rfl
theorem dX4_takeDigits_6 : decode cX4_takeDigits 6 = .ok (.getfield 55, 3) := zq_2 zo_180 zkX4_takeDigits_0 6 rfl rfl 0 55 rfl rfl _ rfl
theorem dX4_takeDigits_9 : decode cX4_takeDigits 9 = .ok (.aload_n 0, 1) := zq_0 zo_42 zkX4_takeDigits_0 9 rfl rfl
theorem dX4_takeDigits_10 : decode cX4_takeDigits 10 = .ok (.getfield 45, 3) := zq_2 zo_180 zkX4_takeDigits_0 10 rfl rfl 0 45 rfl rfl _ rfl
theorem dX4_takeDigits_13 : decode cX4_takeDigits 13 = .ok (.if_icmp .ge 51, 3) := zq_2s zo_162 zkX4_takeDigits_0 13 rfl rfl 0 51 rfl rfl _ (by decide +kernel)
theorem dX4_takeDigits_16 : decode cX4_takeDigits 16 = .ok (.aload_n 0, 1) := zq_0 zo_42 zkX4_takeDigits_0 16 rfl rfl
theorem dX4_takeDigits_17 : decode cX4_takeDigits 17 = .ok (.aload_n 0, 1) := zq_0 zo_42 zkX4_takeDigits_0 17 rfl rfl
theorem dX4_takeDigits_18 : decode cX4_takeDigits 18 = .ok (.getfield 55, 3) := zq_2 zo_180 zkX4_takeDigits_0 18 rfl rfl 0 55 rfl rfl _ rfl
theorem dX4_takeDigits_21 : decode cX4_takeDigits 21 = .ok (.invokevirtual 107, 3) := zq_2 zo_182 zkX4_takeDigits_0 21 rfl rfl 0 107 rfl rfl _ rfl
theorem dX4_takeDigits_24 : decode cX4_takeDigits 24 = .ok (.ifCond .eq 40, 3) := zq_2s zo_153 zkX4_takeDigits_0 24 rfl rfl 0 40 rfl rfl _ (by decide +kernel)
theorem dX4_takeDigits_27 : decode cX4_takeDigits 27 = .ok (.aload_n 0, 1) := zq_0 zo_42 zkX4_takeDigits_0 27 rfl rfl
theorem dX4_takeDigits_28 : decode cX4_takeDigits 28 = .ok (.aload_n 0, 1) := zq_0 zo_42 zkX4_takeDigits_0 28 rfl rfl
theorem dX4_takeDigits_29 : decode cX4_takeDigits 29 = .ok (.getfield 113, 3) := zq_2 zo_180 zkX4_takeDigits_0 29 rfl rfl 0 113 rfl rfl _ rfl
theorem zkX4_takeDigits_32 : zqc cX4_takeDigits 32 [16, 10, 104, 42, 180, 0, 32, 42, 180, 0, 55, 51, 16, 48, 100, 96, 181, 0, 113, 42, 89, 180, 0, 55, 4, 96, 181, 0, 55, 167, 255, 200, 42, 42] := zq_of 34 (by decide +kernel)
theorem dX4_takeDigits_32 : decode cX4_takeDigits 32 = .ok (.bipush 10, 2) := zq_1s zo_16 zkX4_takeDigits_32 0 rfl rfl 10 rfl _ (by decide +kernel)
theorem dX4_takeDigits_34 : decode cX4_takeDigits 34 = .ok (.imul, 1) := zq_0 zo_104 zkX4_takeDigits_32 2 rfl rfl
theorem dX4_takeDigits_35 : decode cX4_takeDigits 35 = .ok (.aload_n 0, 1) := zq_0 zo_42 zkX4_takeDigits_32 3 rfl rfl
theorem dX4_takeDigits_36 : decode cX4_takeDigits 36 = .ok (.getfield 32, 3) := zq_2 zo_180 zkX4_takeDigits_32 4 rfl rfl 0 32 rfl rfl _ rfl
theorem dX4_takeDigits_39 : decode cX4_takeDigits 39 = .ok (.aload_n 0, 1) := zq_0 zo_42 zkX4_takeDigits_32 7 rfl rfl
theorem dX4_takeDigits_40 : decode cX4_takeDigits 40 = .ok (.getfield 55, 3) := zq_2 zo_180 zkX4_takeDigits_32 8 rfl rfl 0 55 rfl rfl _ rfl
theorem dX4_takeDigits_43 : decode cX4_takeDigits 43 = .ok (.baload, 1) := zq_0 zo_51 zkX4_takeDigits_32 11 rfl rfl
theorem dX4_takeDigits_44 : decode cX4_takeDigits 44 = .ok (.bipush 48, 2) := zq_1s zo_16 zkX4_takeDigits_32 12 rfl rfl 48 rfl _ (by decide +kernel)
theorem dX4_takeDigits_46 : decode cX4_takeDigits 46 = .ok (.isub, 1) := zq_0 zo_100 zkX4_takeDigits_32 14 rfl rfl
theorem dX4_takeDigits_47 : decode cX4_takeDigits 47 = .ok (.iadd, 1) := zq_0 zo_96 zkX4_takeDigits_32 15 rfl rfl
theorem dX4_takeDigits_48 : decode cX4_takeDigits 48 = .ok (.putfield 113, 3) := zq_2 zo_181 zkX4_takeDigits_32 16 rfl rfl 0 113 rfl rfl _ rfl
theorem dX4_takeDigits_51 : decode cX4_takeDigits 51 = .ok (.aload_n 0, 1) := zq_0 zo_42 zkX4_takeDigits_32 19 rfl rfl
theorem dX4_takeDigits_52 : decode cX4_takeDigits 52 = .ok (.dup, 1) := zq_0 zo_89 zkX4_takeDigits_32 20 rfl rfl
theorem dX4_takeDigits_53 : decode cX4_takeDigits 53 = .ok (.getfield 55, 3) := zq_2 zo_180 zkX4_takeDigits_32 21 rfl rfl 0 55 rfl rfl _ rfl
theorem dX4_takeDigits_56 : decode cX4_takeDigits 56 = .ok (.iconst 1, 1) := zq_0 zo_4 zkX4_takeDigits_32 24 rfl rfl
theorem dX4_takeDigits_57 : decode cX4_takeDigits 57 = .ok (.iadd, 1) := zq_0 zo_96 zkX4_takeDigits_32 25 rfl rfl
theorem dX4_takeDigits_58 : decode cX4_takeDigits 58 = .ok (.putfield 55, 3) := zq_2 zo_181 zkX4_takeDigits_32 26 rfl rfl 0 55 rfl rfl _ rfl
theorem dX4_takeDigits_61 : decode cX4_takeDigits 61 = .ok (.goto (-56), 3) := zq_2s zo_167 zkX4_takeDigits_32 29 rfl rfl 255 200 rfl rfl _ (by decide +kernel)
theorem zkX4_takeDigits_64 : zqc cX4_takeDigits 64 [42, 42, 180, 0, 55, 42, 180, 0, 90, 100, 6, 163, 0, 7, 5, 167, 0, 4, 7, 181, 0, 87, 177] := zq_of 23 (by decide +kernel)
theorem dX4_takeDigits_64 : decode cX4_takeDigits 64 = .ok (.aload_n 0, 1) := zq_0 zo_42 zkX4_takeDigits_64 0 rfl rfl
theorem dX4_takeDigits_65 : decode cX4_takeDigits 65 = .ok (.aload_n 0, 1) := zq_0 zo_42 zkX4_takeDigits_64 1 rfl rfl
theorem dX4_takeDigits_66 : decode cX4_takeDigits 66 = .ok (.getfield 55, 3) := zq_2 zo_180 zkX4_takeDigits_64 2 rfl rfl 0 55 rfl rfl _ rfl
theorem dX4_takeDigits_69 : decode cX4_takeDigits 69 = .ok (.aload_n 0, 1) := zq_0 zo_42 zkX4_takeDigits_64 5 rfl rfl
theorem dX4_takeDigits_70 : decode cX4_takeDigits 70 = .ok (.getfield 90, 3) := zq_2 zo_180 zkX4_takeDigits_64 6 rfl rfl 0 90 rfl rfl _ rfl
theorem dX4_takeDigits_73 : decode cX4_takeDigits 73 = .ok (.isub, 1) := zq_0 zo_100 zkX4_takeDigits_64 9 rfl rfl
theorem dX4_takeDigits_74 : decode cX4_takeDigits 74 = .ok (.iconst 3, 1) := zq_0 zo_6 zkX4_takeDigits_64 10 rfl rfl
theorem dX4_takeDigits_75 : decode cX4_takeDigits 75 = .ok (.if_icmp .gt 7, 3) := zq_2s zo_163 zkX4_takeDigits_64 11 rfl rfl 0 7 rfl rfl _ (by decide +kernel)
theorem dX4_takeDigits_78 : decode cX4_takeDigits 78 = .ok (.iconst 2, 1) := zq_0 zo_5 zkX4_takeDigits_64 14 rfl rfl
theorem dX4_takeDigits_79 : decode cX4_takeDigits 79 = .ok (.goto 4, 3) := zq_2s zo_167 zkX4_takeDigits_64 15 rfl rfl 0 4 rfl rfl _ (by decide +kernel)
theorem dX4_takeDigits_82 : decode cX4_takeDigits 82 = .ok (.iconst 4, 1) := zq_0 zo_7 zkX4_takeDigits_64 18 rfl rfl
theorem dX4_takeDigits_83 : decode cX4_takeDigits 83 = .ok (.putfield 87, 3) := zq_2 zo_181 zkX4_takeDigits_64 19 rfl rfl 0 87 rfl rfl _ rfl
theorem dX4_takeDigits_86 : decode cX4_takeDigits 86 = .ok (.return_, 1) := zq_0 zo_177 zkX4_takeDigits_64 22 rfl rfl
theorem zkX4_isLetter_0 : zqc cX4_isLetter 0 [42, 180, 0, 32, 27, 51, 16, 97, 161, 0, 18, 42, 180, 0, 32, 27, 51, 16, 122, 163, 0, 7, 4, 167, 0, 4, 3, 172] := zq_of 28 (by decide +kernel)
theorem dX4_isLetter_0 : decode cX4_isLetter 0 = .ok (.aload_n 0, 1) := zq_0 zo_42 zkX4_isLetter_0 0 rfl rfl
theorem dX4_isLetter_1 : decode cX4_isLetter 1 = .ok (.getfield 32, 3) := zq_2 zo_180 zkX4_isLetter_0 1 rfl rfl 0 32 rfl rfl _ rfl
theorem dX4_isLetter_4 : decode cX4_isLetter 4 = .ok (.iload_n 1, 1) := zq_0 zo_27 zkX4_isLetter_0 4 rfl rfl
theorem dX4_isLetter_5 : decode cX4_isLetter 5 = .ok (.baload, 1) := zq_0 zo_51 zkX4_isLetter_0 5 rfl rfl
theorem dX4_isLetter_6 : decode cX4_isLetter 6 = .ok (.bipush 97, 2) := zq_1s zo_16 zkX4_isLetter_0 6 rfl rfl 97 rfl _ (by decide +kernel)
theorem dX4_isLetter_8 : decode cX4_isLetter 8 = .ok (.if_icmp .lt 18, 3) := zq_2s zo_161 zkX4_isLetter_0 8 rfl rfl 0 18 rfl rfl _ (by decide +kernel)
theorem dX4_isLetter_11 : decode cX4_isLetter 11 = .ok (.aload_n 0, 1) := zq_0 zo_42 zkX4_isLetter_0 11 rfl rfl
theorem dX4_isLetter_12 : decode cX4_isLetter 12 = .ok (.getfield 32, 3) := zq_2 zo_180 zkX4_isLetter_0 12 rfl rfl 0 32 rfl rfl _ rfl
theorem dX4_isLetter_15 : decode cX4_isLetter 15 = .ok (.iload_n 1, 1) := zq_0 zo_27 zkX4_isLetter_0 15 rfl rfl
theorem dX4_isLetter_16 : decode cX4_isLetter 16 = .ok (.baload, 1) := zq_0 zo_51 zkX4_isLetter_0 16 rfl rfl
theorem dX4_isLetter_17 : decode cX4_isLetter 17 = .ok (.bipush 122, 2) := zq_1s zo_16 zkX4_isLetter_0 17 rfl rfl 122 rfl _ (by decide +kernel)
theorem dX4_isLetter_19 : decode cX4_isLetter 19 = .ok (.if_icmp .gt 7, 3) := zq_2s zo_163 zkX4_isLetter_0 19 rfl rfl 0 7 rfl rfl _ (by decide +kernel)
theorem dX4_isLetter_22 : decode cX4_isLetter 22 = .ok (.iconst 1, 1) := zq_0 zo_4 zkX4_isLetter_0 22 rfl rfl
theorem dX4_isLetter_23 : decode cX4_isLetter 23 = .ok (.goto 4, 3) := zq_2s zo_167 zkX4_isLetter_0 23 rfl rfl 0 4 rfl rfl _ (by decide +kernel)
theorem dX4_isLetter_26 : decode cX4_isLetter 26 = .ok (.iconst 0, 1) := zq_0 zo_3 zkX4_isLetter_0 26 rfl rfl
theorem dX4_isLetter_27 : decode cX4_isLetter 27 = .ok (.ireturn, 1) := zq_0 zo_172 zkX4_isLetter_0 27 rfl rfl
theorem zkX4_isDigit_0 : zqc cX4_isDigit 0 [42, 180, 0, 32, 27, 51, 16, 48, 161, 0, 18, 42, 180, 0, 32, 27, 51, 16, 57, 163, 0, 7, 4, 167, 0, 4, 3, 172] := zq_of 28 (by decide +kernel)
theorem dX4_isDigit_0 : decode cX4_isDigit 0 = .ok (.aload_n 0, 1) := zq_0 zo_42 zkX4_isDigit_0 0 rfl rfl
theorem dX4_isDigit_1 : decode cX4_isDigit 1 = .ok (.getfield 32, 3) := zq_2 zo_180 zkX4_isDigit_0 1 rfl rfl 0 32 rfl rfl _ rfl
theorem dX4_isDigit_4 : decode cX4_isDigit 4 = .ok (.iload_n 1, 1) := zq_0 zo_27 zkX4_isDigit_0 4 rfl rfl
theorem dX4_isDigit_5 : decode cX4_isDigit 5 = .ok (.baload, 1) := zq_0 zo_51 zkX4_isDigit_0 5 rfl rfl
theorem dX4_isDigit_6 : decode cX4_isDigit 6 = .ok (.bipush 48, 2) := zq_1s zo_16 zkX4_isDigit_0 6 rfl rfl 48 rfl _ (by decide +kernel)
theorem dX4_isDigit_8 : decode cX4_isDigit 8 = .ok (.if_icmp .lt 18, 3) := zq_2s zo_161 zkX4_isDigit_0 8 rfl rfl 0 18 rfl rfl _ (by decide +kernel)
theorem dX4_isDigit_11 : decode cX4_isDigit 11 = .ok (.aload_n 0, 1) := zq_0 zo_42 zkX4_isDigit_0 11 rfl rfl
theorem dX4_isDigit_12 : decode cX4_isDigit 12 = .ok (.getfield 32, 3) := zq_2 zo_180 zkX4_isDigit_0 12 rfl rfl 0 32 rfl rfl _ rfl
theorem dX4_isDigit_15 : decode cX4_isDigit 15 = .ok (.iload_n 1, 1) := zq_0 zo_27 zkX4_isDigit_0 15 rfl rfl
theorem dX4_isDigit_16 : decode cX4_isDigit 16 = .ok (.baload, 1) := zq_0 zo_51 zkX4_isDigit_0 16 rfl rfl
theorem dX4_isDigit_17 : decode cX4_isDigit 17 = .ok (.bipush 57, 2) := zq_1s zo_16 zkX4_isDigit_0 17 rfl rfl 57 rfl _ (by decide +kernel)
theorem dX4_isDigit_19 : decode cX4_isDigit 19 = .ok (.if_icmp .gt 7, 3) := zq_2s zo_163 zkX4_isDigit_0 19 rfl rfl 0 7 rfl rfl _ (by decide +kernel)
theorem dX4_isDigit_22 : decode cX4_isDigit 22 = .ok (.iconst 1, 1) := zq_0 zo_4 zkX4_isDigit_0 22 rfl rfl
theorem dX4_isDigit_23 : decode cX4_isDigit 23 = .ok (.goto 4, 3) := zq_2s zo_167 zkX4_isDigit_0 23 rfl rfl 0 4 rfl rfl _ (by decide +kernel)
theorem dX4_isDigit_26 : decode cX4_isDigit 26 = .ok (.iconst 0, 1) := zq_0 zo_3 zkX4_isDigit_0 26 rfl rfl
theorem dX4_isDigit_27 : decode cX4_isDigit 27 = .ok (.ireturn, 1) := zq_0 zo_172 zkX4_isDigit_0 27 rfl rfl
theorem zkX4_wordOf_0 : zqc cX4_wordOf 0 [27, 4, 160, 0, 19, 42, 18, 116, 182, 0, 118, 153, 0, 8, 16, 9, 167, 0, 4, 2, 172, 27, 5, 160, 0, 19, 42, 18, 122, 182, 0, 118, 153, 0] := zq_of 34 (by decide +kernel)
theorem dX4_wordOf_0 : decode cX4_wordOf 0 = .ok (.iload_n 1, 1) := zq_0 zo_27 zkX4_wordOf_0 0 rfl rfl
theorem dX4_wordOf_1 : decode cX4_wordOf 1 = .ok (.iconst 1, 1) := zq_0 zo_4 zkX4_wordOf_0 1 rfl rfl
theorem dX4_wordOf_2 : decode cX4_wordOf 2 = .ok (.if_icmp .ne 19, 3) := zq_2s zo_160 zkX4_wordOf_0 2 rfl rfl 0 19 rfl rfl _ (by decide +kernel)
theorem dX4_wordOf_5 : decode cX4_wordOf 5 = .ok (.aload_n 0, 1) := zq_0 zo_42 zkX4_wordOf_0 5 rfl rfl
theorem dX4_wordOf_6 : decode cX4_wordOf 6 = .ok (.ldc 116, 2) := zq_1 zo_18 zkX4_wordOf_0 6 rfl rfl 116 rfl
theorem dX4_wordOf_8 : decode cX4_wordOf 8 = .ok (.invokevirtual 118, 3) := zq_2 zo_182 zkX4_wordOf_0 8 rfl rfl 0 118 rfl rfl _ rfl
theorem dX4_wordOf_11 : decode cX4_wordOf 11 = .ok (.ifCond .eq 8, 3) := zq_2s zo_153 zkX4_wordOf_0 11 rfl rfl 0 8 rfl rfl _ (by decide +kernel)
theorem dX4_wordOf_14 : decode cX4_wordOf 14 = .ok (.bipush 9, 2) := zq_1s zo_16 zkX4_wordOf_0 14 rfl rfl 9 rfl _ (by decide +kernel)
theorem dX4_wordOf_16 : decode cX4_wordOf 16 = .ok (.goto 4, 3) := zq_2s zo_167 zkX4_wordOf_0 16 rfl rfl 0 4 rfl rfl _ (by decide +kernel)
theorem dX4_wordOf_19 : decode cX4_wordOf 19 = .ok (.iconst (-1), 1) := zq_0 zo_2 zkX4_wordOf_0 19 rfl rfl
theorem dX4_wordOf_20 : decode cX4_wordOf 20 = .ok (.ireturn, 1) := zq_0 zo_172 zkX4_wordOf_0 20 rfl rfl
theorem dX4_wordOf_21 : decode cX4_wordOf 21 = .ok (.iload_n 1, 1) := zq_0 zo_27 zkX4_wordOf_0 21 rfl rfl
theorem dX4_wordOf_22 : decode cX4_wordOf 22 = .ok (.iconst 2, 1) := zq_0 zo_5 zkX4_wordOf_0 22 rfl rfl
theorem dX4_wordOf_23 : decode cX4_wordOf 23 = .ok (.if_icmp .ne 19, 3) := zq_2s zo_160 zkX4_wordOf_0 23 rfl rfl 0 19 rfl rfl _ (by decide +kernel)
theorem dX4_wordOf_26 : decode cX4_wordOf 26 = .ok (.aload_n 0, 1) := zq_0 zo_42 zkX4_wordOf_0 26 rfl rfl
theorem dX4_wordOf_27 : decode cX4_wordOf 27 = .ok (.ldc 122, 2) := zq_1 zo_18 zkX4_wordOf_0 27 rfl rfl 122 rfl
theorem dX4_wordOf_29 : decode cX4_wordOf 29 = .ok (.invokevirtual 118, 3) := zq_2 zo_182 zkX4_wordOf_0 29 rfl rfl 0 118 rfl rfl _ rfl
theorem zkX4_wordOf_32 : zqc cX4_wordOf 32 [153, 0, 8, 16, 10, 167, 0, 4, 2, 172, 42, 182, 0, 124, 172] := zq_of 15 (by decide +kernel)
theorem dX4_wordOf_32 : decode cX4_wordOf 32 = .ok (.ifCond .eq 8, 3) := zq_2s zo_153 zkX4_wordOf_32 0 rfl rfl 0 8 rfl rfl _ (by decide +kernel)
theorem dX4_wordOf_35 : decode cX4_wordOf 35 = .ok (.bipush 10, 2) := zq_1s zo_16 zkX4_wordOf_32 3 rfl rfl 10 rfl _ (by decide +kernel)
theorem dX4_wordOf_37 : decode cX4_wordOf 37 = .ok (.goto 4, 3) := zq_2s zo_167 zkX4_wordOf_32 5 rfl rfl 0 4 rfl rfl _ (by decide +kernel)
theorem dX4_wordOf_40 : decode cX4_wordOf 40 = .ok (.iconst (-1), 1) := zq_0 zo_2 zkX4_wordOf_32 8 rfl rfl
theorem dX4_wordOf_41 : decode cX4_wordOf 41 = .ok (.ireturn, 1) := zq_0 zo_172 zkX4_wordOf_32 9 rfl rfl
theorem dX4_wordOf_42 : decode cX4_wordOf 42 = .ok (.aload_n 0, 1) := zq_0 zo_42 zkX4_wordOf_32 10 rfl rfl
theorem dX4_wordOf_43 : decode cX4_wordOf 43 = .ok (.invokevirtual 124, 3) := zq_2 zo_182 zkX4_wordOf_32 11 rfl rfl 0 124 rfl rfl _ rfl
theorem dX4_wordOf_46 : decode cX4_wordOf 46 = .ok (.ireturn, 1) := zq_0 zo_172 zkX4_wordOf_32 14 rfl rfl
theorem zkX4_lineWord_0 : zqc cX4_lineWord 0 [42, 18, 128, 182, 0, 118, 153, 0, 5, 3, 172, 42, 18, 130, 182, 0, 118, 153, 0, 5, 4, 172, 42, 18, 132, 182, 0, 118, 153, 0, 5, 5, 172, 42] := zq_of 34 (by decide +kernel)
theorem dX4_lineWord_0 : decode cX4_lineWord 0 = .ok (.aload_n 0, 1) := zq_0 zo_42 zkX4_lineWord_0 0 rfl rfl
theorem dX4_lineWord_1 : decode cX4_lineWord 1 = .ok (.ldc 128, 2) := zq_1 zo_18 zkX4_lineWord_0 1 rfl rfl 128 rfl
theorem dX4_lineWord_3 : decode cX4_lineWord 3 = .ok (.invokevirtual 118, 3) := zq_2 zo_182 zkX4_lineWord_0 3 rfl rfl 0 118 rfl rfl _ rfl
theorem dX4_lineWord_6 : decode cX4_lineWord 6 = .ok (.ifCond .eq 5, 3) := zq_2s zo_153 zkX4_lineWord_0 6 rfl rfl 0 5 rfl rfl _ (by decide +kernel)
theorem dX4_lineWord_9 : decode cX4_lineWord 9 = .ok (.iconst 0, 1) := zq_0 zo_3 zkX4_lineWord_0 9 rfl rfl
theorem dX4_lineWord_10 : decode cX4_lineWord 10 = .ok (.ireturn, 1) := zq_0 zo_172 zkX4_lineWord_0 10 rfl rfl
theorem dX4_lineWord_11 : decode cX4_lineWord 11 = .ok (.aload_n 0, 1) := zq_0 zo_42 zkX4_lineWord_0 11 rfl rfl
theorem dX4_lineWord_12 : decode cX4_lineWord 12 = .ok (.ldc 130, 2) := zq_1 zo_18 zkX4_lineWord_0 12 rfl rfl 130 rfl
theorem dX4_lineWord_14 : decode cX4_lineWord 14 = .ok (.invokevirtual 118, 3) := zq_2 zo_182 zkX4_lineWord_0 14 rfl rfl 0 118 rfl rfl _ rfl
theorem dX4_lineWord_17 : decode cX4_lineWord 17 = .ok (.ifCond .eq 5, 3) := zq_2s zo_153 zkX4_lineWord_0 17 rfl rfl 0 5 rfl rfl _ (by decide +kernel)
theorem dX4_lineWord_20 : decode cX4_lineWord 20 = .ok (.iconst 1, 1) := zq_0 zo_4 zkX4_lineWord_0 20 rfl rfl
theorem dX4_lineWord_21 : decode cX4_lineWord 21 = .ok (.ireturn, 1) := zq_0 zo_172 zkX4_lineWord_0 21 rfl rfl
theorem dX4_lineWord_22 : decode cX4_lineWord 22 = .ok (.aload_n 0, 1) := zq_0 zo_42 zkX4_lineWord_0 22 rfl rfl
theorem dX4_lineWord_23 : decode cX4_lineWord 23 = .ok (.ldc 132, 2) := zq_1 zo_18 zkX4_lineWord_0 23 rfl rfl 132 rfl
theorem dX4_lineWord_25 : decode cX4_lineWord 25 = .ok (.invokevirtual 118, 3) := zq_2 zo_182 zkX4_lineWord_0 25 rfl rfl 0 118 rfl rfl _ rfl
theorem dX4_lineWord_28 : decode cX4_lineWord 28 = .ok (.ifCond .eq 5, 3) := zq_2s zo_153 zkX4_lineWord_0 28 rfl rfl 0 5 rfl rfl _ (by decide +kernel)
theorem dX4_lineWord_31 : decode cX4_lineWord 31 = .ok (.iconst 2, 1) := zq_0 zo_5 zkX4_lineWord_0 31 rfl rfl
theorem zkX4_lineWord_32 : zqc cX4_lineWord 32 [172, 42, 18, 134, 182, 0, 118, 153, 0, 5, 6, 172, 42, 18, 136, 182, 0, 118, 153, 0, 5, 7, 172, 42, 18, 138, 182, 0, 118, 153, 0, 5, 8, 172] := zq_of 34 (by decide +kernel)
theorem dX4_lineWord_32 : decode cX4_lineWord 32 = .ok (.ireturn, 1) := zq_0 zo_172 zkX4_lineWord_32 0 rfl rfl
theorem dX4_lineWord_33 : decode cX4_lineWord 33 = .ok (.aload_n 0, 1) := zq_0 zo_42 zkX4_lineWord_32 1 rfl rfl
theorem dX4_lineWord_34 : decode cX4_lineWord 34 = .ok (.ldc 134, 2) := zq_1 zo_18 zkX4_lineWord_32 2 rfl rfl 134 rfl
theorem dX4_lineWord_36 : decode cX4_lineWord 36 = .ok (.invokevirtual 118, 3) := zq_2 zo_182 zkX4_lineWord_32 4 rfl rfl 0 118 rfl rfl _ rfl
theorem dX4_lineWord_39 : decode cX4_lineWord 39 = .ok (.ifCond .eq 5, 3) := zq_2s zo_153 zkX4_lineWord_32 7 rfl rfl 0 5 rfl rfl _ (by decide +kernel)
theorem dX4_lineWord_42 : decode cX4_lineWord 42 = .ok (.iconst 3, 1) := zq_0 zo_6 zkX4_lineWord_32 10 rfl rfl
theorem dX4_lineWord_43 : decode cX4_lineWord 43 = .ok (.ireturn, 1) := zq_0 zo_172 zkX4_lineWord_32 11 rfl rfl
theorem dX4_lineWord_44 : decode cX4_lineWord 44 = .ok (.aload_n 0, 1) := zq_0 zo_42 zkX4_lineWord_32 12 rfl rfl
theorem dX4_lineWord_45 : decode cX4_lineWord 45 = .ok (.ldc 136, 2) := zq_1 zo_18 zkX4_lineWord_32 13 rfl rfl 136 rfl
theorem dX4_lineWord_47 : decode cX4_lineWord 47 = .ok (.invokevirtual 118, 3) := zq_2 zo_182 zkX4_lineWord_32 15 rfl rfl 0 118 rfl rfl _ rfl
theorem dX4_lineWord_50 : decode cX4_lineWord 50 = .ok (.ifCond .eq 5, 3) := zq_2s zo_153 zkX4_lineWord_32 18 rfl rfl 0 5 rfl rfl _ (by decide +kernel)
theorem dX4_lineWord_53 : decode cX4_lineWord 53 = .ok (.iconst 4, 1) := zq_0 zo_7 zkX4_lineWord_32 21 rfl rfl
theorem dX4_lineWord_54 : decode cX4_lineWord 54 = .ok (.ireturn, 1) := zq_0 zo_172 zkX4_lineWord_32 22 rfl rfl
theorem dX4_lineWord_55 : decode cX4_lineWord 55 = .ok (.aload_n 0, 1) := zq_0 zo_42 zkX4_lineWord_32 23 rfl rfl
theorem dX4_lineWord_56 : decode cX4_lineWord 56 = .ok (.ldc 138, 2) := zq_1 zo_18 zkX4_lineWord_32 24 rfl rfl 138 rfl
theorem dX4_lineWord_58 : decode cX4_lineWord 58 = .ok (.invokevirtual 118, 3) := zq_2 zo_182 zkX4_lineWord_32 26 rfl rfl 0 118 rfl rfl _ rfl
theorem dX4_lineWord_61 : decode cX4_lineWord 61 = .ok (.ifCond .eq 5, 3) := zq_2s zo_153 zkX4_lineWord_32 29 rfl rfl 0 5 rfl rfl _ (by decide +kernel)
theorem zkX4_lineWord_64 : zqc cX4_lineWord 64 [8, 172, 42, 18, 140, 182, 0, 118, 153, 0, 6, 16, 6, 172, 42, 18, 142, 182, 0, 118, 153, 0, 6, 16, 7, 172, 42, 18, 144, 182, 0, 118, 153, 0] := zq_of 34 (by decide +kernel)
theorem dX4_lineWord_64 : decode cX4_lineWord 64 = .ok (.iconst 5, 1) := zq_0 zo_8 zkX4_lineWord_64 0 rfl rfl
theorem dX4_lineWord_65 : decode cX4_lineWord 65 = .ok (.ireturn, 1) := zq_0 zo_172 zkX4_lineWord_64 1 rfl rfl
theorem dX4_lineWord_66 : decode cX4_lineWord 66 = .ok (.aload_n 0, 1) := zq_0 zo_42 zkX4_lineWord_64 2 rfl rfl
theorem dX4_lineWord_67 : decode cX4_lineWord 67 = .ok (.ldc 140, 2) := zq_1 zo_18 zkX4_lineWord_64 3 rfl rfl 140 rfl
theorem dX4_lineWord_69 : decode cX4_lineWord 69 = .ok (.invokevirtual 118, 3) := zq_2 zo_182 zkX4_lineWord_64 5 rfl rfl 0 118 rfl rfl _ rfl
theorem dX4_lineWord_72 : decode cX4_lineWord 72 = .ok (.ifCond .eq 6, 3) := zq_2s zo_153 zkX4_lineWord_64 8 rfl rfl 0 6 rfl rfl _ (by decide +kernel)
theorem dX4_lineWord_75 : decode cX4_lineWord 75 = .ok (.bipush 6, 2) := zq_1s zo_16 zkX4_lineWord_64 11 rfl rfl 6 rfl _ (by decide +kernel)
theorem dX4_lineWord_77 : decode cX4_lineWord 77 = .ok (.ireturn, 1) := zq_0 zo_172 zkX4_lineWord_64 13 rfl rfl
theorem dX4_lineWord_78 : decode cX4_lineWord 78 = .ok (.aload_n 0, 1) := zq_0 zo_42 zkX4_lineWord_64 14 rfl rfl
theorem dX4_lineWord_79 : decode cX4_lineWord 79 = .ok (.ldc 142, 2) := zq_1 zo_18 zkX4_lineWord_64 15 rfl rfl 142 rfl
theorem dX4_lineWord_81 : decode cX4_lineWord 81 = .ok (.invokevirtual 118, 3) := zq_2 zo_182 zkX4_lineWord_64 17 rfl rfl 0 118 rfl rfl _ rfl
theorem dX4_lineWord_84 : decode cX4_lineWord 84 = .ok (.ifCond .eq 6, 3) := zq_2s zo_153 zkX4_lineWord_64 20 rfl rfl 0 6 rfl rfl _ (by decide +kernel)
theorem dX4_lineWord_87 : decode cX4_lineWord 87 = .ok (.bipush 7, 2) := zq_1s zo_16 zkX4_lineWord_64 23 rfl rfl 7 rfl _ (by decide +kernel)
theorem dX4_lineWord_89 : decode cX4_lineWord 89 = .ok (.ireturn, 1) := zq_0 zo_172 zkX4_lineWord_64 25 rfl rfl
theorem dX4_lineWord_90 : decode cX4_lineWord 90 = .ok (.aload_n 0, 1) := zq_0 zo_42 zkX4_lineWord_64 26 rfl rfl
theorem dX4_lineWord_91 : decode cX4_lineWord 91 = .ok (.ldc 144, 2) := zq_1 zo_18 zkX4_lineWord_64 27 rfl rfl 144 rfl
theorem dX4_lineWord_93 : decode cX4_lineWord 93 = .ok (.invokevirtual 118, 3) := zq_2 zo_182 zkX4_lineWord_64 29 rfl rfl 0 118 rfl rfl _ rfl
theorem zkX4_lineWord_96 : zqc cX4_lineWord 96 [153, 0, 8, 16, 8, 167, 0, 4, 2, 172] := zq_of 10 (by decide +kernel)
theorem dX4_lineWord_96 : decode cX4_lineWord 96 = .ok (.ifCond .eq 8, 3) := zq_2s zo_153 zkX4_lineWord_96 0 rfl rfl 0 8 rfl rfl _ (by decide +kernel)
theorem dX4_lineWord_99 : decode cX4_lineWord 99 = .ok (.bipush 8, 2) := zq_1s zo_16 zkX4_lineWord_96 3 rfl rfl 8 rfl _ (by decide +kernel)
theorem dX4_lineWord_101 : decode cX4_lineWord 101 = .ok (.goto 4, 3) := zq_2s zo_167 zkX4_lineWord_96 5 rfl rfl 0 4 rfl rfl _ (by decide +kernel)
theorem dX4_lineWord_104 : decode cX4_lineWord 104 = .ok (.iconst (-1), 1) := zq_0 zo_2 zkX4_lineWord_96 8 rfl rfl
theorem dX4_lineWord_105 : decode cX4_lineWord 105 = .ok (.ireturn, 1) := zq_0 zo_172 zkX4_lineWord_96 9 rfl rfl
theorem zkX4_isWord_0 : zqc cX4_isWord 0 [42, 180, 0, 55, 42, 180, 0, 90, 100, 43, 182, 0, 146, 159, 0, 5, 3, 172, 3, 61, 28, 43, 182, 0, 146, 162, 0, 43, 42, 180, 0, 90, 28, 96] := zq_of 34 (by decide +kernel)
theorem dX4_isWord_0 : decode cX4_isWord 0 = .ok (.aload_n 0, 1) := zq_0 zo_42 zkX4_isWord_0 0 rfl rfl
theorem dX4_isWord_1 : decode cX4_isWord 1 = .ok (.getfield 55, 3) := zq_2 zo_180 zkX4_isWord_0 1 rfl rfl 0 55 rfl rfl _ rfl
theorem dX4_isWord_4 : decode cX4_isWord 4 = .ok (.aload_n 0, 1) := zq_0 zo_42 zkX4_isWord_0 4 rfl rfl
theorem dX4_isWord_5 : decode cX4_isWord 5 = .ok (.getfield 90, 3) := zq_2 zo_180 zkX4_isWord_0 5 rfl rfl 0 90 rfl rfl _ rfl
theorem dX4_isWord_8 : decode cX4_isWord 8 = .ok (.isub, 1) := zq_0 zo_100 zkX4_isWord_0 8 rfl rfl
theorem dX4_isWord_9 : decode cX4_isWord 9 = .ok (.aload_n 1, 1) := zq_0 zo_43 zkX4_isWord_0 9 rfl rfl
theorem dX4_isWord_10 : decode cX4_isWord 10 = .ok (.invokevirtual 146, 3) := zq_2 zo_182 zkX4_isWord_0 10 rfl rfl 0 146 rfl rfl _ rfl
theorem dX4_isWord_13 : decode cX4_isWord 13 = .ok (.if_icmp .eq 5, 3) := zq_2s zo_159 zkX4_isWord_0 13 rfl rfl 0 5 rfl rfl _ (by decide +kernel)
theorem dX4_isWord_16 : decode cX4_isWord 16 = .ok (.iconst 0, 1) := zq_0 zo_3 zkX4_isWord_0 16 rfl rfl
theorem dX4_isWord_17 : decode cX4_isWord 17 = .ok (.ireturn, 1) := zq_0 zo_172 zkX4_isWord_0 17 rfl rfl
theorem dX4_isWord_18 : decode cX4_isWord 18 = .ok (.iconst 0, 1) := zq_0 zo_3 zkX4_isWord_0 18 rfl rfl
theorem dX4_isWord_19 : decode cX4_isWord 19 = .ok (.istore_n 2, 1) := zq_0 zo_61 zkX4_isWord_0 19 rfl rfl
theorem dX4_isWord_20 : decode cX4_isWord 20 = .ok (.iload_n 2, 1) := zq_0 zo_28 zkX4_isWord_0 20 rfl rfl
theorem dX4_isWord_21 : decode cX4_isWord 21 = .ok (.aload_n 1, 1) := zq_0 zo_43 zkX4_isWord_0 21 rfl rfl
theorem dX4_isWord_22 : decode cX4_isWord 22 = .ok (.invokevirtual 146, 3) := zq_2 zo_182 zkX4_isWord_0 22 rfl rfl 0 146 rfl rfl _ rfl
theorem dX4_isWord_25 : decode cX4_isWord 25 = .ok (.if_icmp .ge 43, 3) := zq_2s zo_162 zkX4_isWord_0 25 rfl rfl 0 43 rfl rfl _ (by decide +kernel)
theorem dX4_isWord_28 : decode cX4_isWord 28 = .ok (.aload_n 0, 1) := zq_0 zo_42 zkX4_isWord_0 28 rfl rfl
theorem dX4_isWord_29 : decode cX4_isWord 29 = .ok (.getfield 90, 3) := zq_2 zo_180 zkX4_isWord_0 29 rfl rfl 0 90 rfl rfl _ rfl
theorem zkX4_isWord_32 : zqc cX4_isWord 32 [28, 96, 42, 180, 0, 45, 162, 0, 30, 42, 180, 0, 32, 42, 180, 0, 90, 28, 96, 51, 43, 28, 182, 0, 150, 159, 0, 5, 3, 172, 132, 2, 1, 167] := zq_of 34 (by decide +kernel)
theorem dX4_isWord_32 : decode cX4_isWord 32 = .ok (.iload_n 2, 1) := zq_0 zo_28 zkX4_isWord_32 0 rfl rfl
theorem dX4_isWord_33 : decode cX4_isWord 33 = .ok (.iadd, 1) := zq_0 zo_96 zkX4_isWord_32 1 rfl rfl
theorem dX4_isWord_34 : decode cX4_isWord 34 = .ok (.aload_n 0, 1) := zq_0 zo_42 zkX4_isWord_32 2 rfl rfl
theorem dX4_isWord_35 : decode cX4_isWord 35 = .ok (.getfield 45, 3) := zq_2 zo_180 zkX4_isWord_32 3 rfl rfl 0 45 rfl rfl _ rfl
theorem dX4_isWord_38 : decode cX4_isWord 38 = .ok (.if_icmp .ge 30, 3) := zq_2s zo_162 zkX4_isWord_32 6 rfl rfl 0 30 rfl rfl _ (by decide +kernel)
theorem dX4_isWord_41 : decode cX4_isWord 41 = .ok (.aload_n 0, 1) := zq_0 zo_42 zkX4_isWord_32 9 rfl rfl
theorem dX4_isWord_42 : decode cX4_isWord 42 = .ok (.getfield 32, 3) := zq_2 zo_180 zkX4_isWord_32 10 rfl rfl 0 32 rfl rfl _ rfl
theorem dX4_isWord_45 : decode cX4_isWord 45 = .ok (.aload_n 0, 1) := zq_0 zo_42 zkX4_isWord_32 13 rfl rfl
theorem dX4_isWord_46 : decode cX4_isWord 46 = .ok (.getfield 90, 3) := zq_2 zo_180 zkX4_isWord_32 14 rfl rfl 0 90 rfl rfl _ rfl
theorem dX4_isWord_49 : decode cX4_isWord 49 = .ok (.iload_n 2, 1) := zq_0 zo_28 zkX4_isWord_32 17 rfl rfl
theorem dX4_isWord_50 : decode cX4_isWord 50 = .ok (.iadd, 1) := zq_0 zo_96 zkX4_isWord_32 18 rfl rfl
theorem dX4_isWord_51 : decode cX4_isWord 51 = .ok (.baload, 1) := zq_0 zo_51 zkX4_isWord_32 19 rfl rfl
theorem dX4_isWord_52 : decode cX4_isWord 52 = .ok (.aload_n 1, 1) := zq_0 zo_43 zkX4_isWord_32 20 rfl rfl
theorem dX4_isWord_53 : decode cX4_isWord 53 = .ok (.iload_n 2, 1) := zq_0 zo_28 zkX4_isWord_32 21 rfl rfl
theorem dX4_isWord_54 : decode cX4_isWord 54 = .ok (.invokevirtual 150, 3) := zq_2 zo_182 zkX4_isWord_32 22 rfl rfl 0 150 rfl rfl _ rfl
theorem dX4_isWord_57 : decode cX4_isWord 57 = .ok (.if_icmp .eq 5, 3) := zq_2s zo_159 zkX4_isWord_32 25 rfl rfl 0 5 rfl rfl _ (by decide +kernel)
theorem dX4_isWord_60 : decode cX4_isWord 60 = .ok (.iconst 0, 1) := zq_0 zo_3 zkX4_isWord_32 28 rfl rfl
theorem dX4_isWord_61 : decode cX4_isWord 61 = .ok (.ireturn, 1) := zq_0 zo_172 zkX4_isWord_32 29 rfl rfl
theorem dX4_isWord_62 : decode cX4_isWord 62 = .ok (.iinc 2 1, 3) := zq_ii zo_132 zkX4_isWord_32 30 rfl rfl 2 1 rfl rfl _ (by decide +kernel)
theorem zkX4_isWord_64 : zqc cX4_isWord 64 [1, 167, 255, 211, 4, 172] := zq_of 6 (by decide +kernel)
theorem dX4_isWord_65 : decode cX4_isWord 65 = .ok (.goto (-45), 3) := zq_2s zo_167 zkX4_isWord_64 1 rfl rfl 255 211 rfl rfl _ (by decide +kernel)
theorem dX4_isWord_68 : decode cX4_isWord 68 = .ok (.iconst 1, 1) := zq_0 zo_4 zkX4_isWord_64 4 rfl rfl
theorem dX4_isWord_69 : decode cX4_isWord 69 = .ok (.ireturn, 1) := zq_0 zo_172 zkX4_isWord_64 5 rfl rfl
theorem zkX4_howManyNumbers_0 : zqc cX4_howManyNumbers 0 [26, 170, 0, 0, 0, 0, 0, 66, 0, 0, 0, 0, 0, 0, 0, 10, 0, 0, 0, 59, 0, 0, 0, 61, 0, 0, 0, 64, 0, 0, 0, 64, 0, 0] := zq_of 34 (by decide +kernel)
theorem dX4_howManyNumbers_0 : decode cX4_howManyNumbers 0 = .ok (.iload_n 0, 1) := zq_0 zo_26 zkX4_howManyNumbers_0 0 rfl rfl
theorem dX4_howManyNumbers_1 : decode cX4_howManyNumbers 1 = .ok (.tableswitch 66 0 10 #[59, 61, 64, 64, 66, 66, 66, 66, 66, 64, 64], 59) := by decide +kernel
theorem zkX4_howManyNumbers_32 : zqc cX4_howManyNumbers 32 [0, 0, 0, 66, 0, 0, 0, 66, 0, 0, 0, 66, 0, 0, 0, 66, 0, 0, 0, 66, 0, 0, 0, 64, 0, 0, 0, 64, 6, 172, 16, 6, 172, 5] := zq_of 34 (by decide +kernel)
theorem dX4_howManyNumbers_60 : decode cX4_howManyNumbers 60 = .ok (.iconst 3, 1) := zq_0 zo_6 zkX4_howManyNumbers_32 28 rfl rfl
theorem dX4_howManyNumbers_61 : decode cX4_howManyNumbers 61 = .ok (.ireturn, 1) := zq_0 zo_172 zkX4_howManyNumbers_32 29 rfl rfl
theorem dX4_howManyNumbers_62 : decode cX4_howManyNumbers 62 = .ok (.bipush 6, 2) := zq_1s zo_16 zkX4_howManyNumbers_32 30 rfl rfl 6 rfl _ (by decide +kernel)
theorem zkX4_howManyNumbers_64 : zqc cX4_howManyNumbers 64 [172, 5, 172, 4, 172] := zq_of 5 (by decide +kernel)
theorem dX4_howManyNumbers_64 : decode cX4_howManyNumbers 64 = .ok (.ireturn, 1) := zq_0 zo_172 zkX4_howManyNumbers_64 0 rfl rfl
theorem dX4_howManyNumbers_65 : decode cX4_howManyNumbers 65 = .ok (.iconst 2, 1) := zq_0 zo_5 zkX4_howManyNumbers_64 1 rfl rfl
theorem dX4_howManyNumbers_66 : decode cX4_howManyNumbers 66 = .ok (.ireturn, 1) := zq_0 zo_172 zkX4_howManyNumbers_64 2 rfl rfl
theorem dX4_howManyNumbers_67 : decode cX4_howManyNumbers 67 = .ok (.iconst 1, 1) := zq_0 zo_4 zkX4_howManyNumbers_64 3 rfl rfl
theorem dX4_howManyNumbers_68 : decode cX4_howManyNumbers 68 = .ok (.ireturn, 1) := zq_0 zo_172 zkX4_howManyNumbers_64 4 rfl rfl
theorem zkX4_readNumbers_0 : zqc cX4_readNumbers 0 [27, 184, 0, 154, 61, 3, 62, 29, 28, 162, 0, 49, 29, 16, 6, 162, 0, 43, 42, 182, 0, 84, 42, 180, 0, 87, 5, 159, 0, 5, 3, 172, 42, 180] := zq_of 34 (by decide +kernel)
theorem dX4_readNumbers_0 : decode cX4_readNumbers 0 = .ok (.iload_n 1, 1) := zq_0 zo_27 zkX4_readNumbers_0 0 rfl rfl
theorem dX4_readNumbers_1 : decode cX4_readNumbers 1 = .ok (.invokestatic 154, 3) := zq_2 zo_184 zkX4_readNumbers_0 1 rfl rfl 0 154 rfl rfl _ rfl
theorem dX4_readNumbers_4 : decode cX4_readNumbers 4 = .ok (.istore_n 2, 1) := zq_0 zo_61 zkX4_readNumbers_0 4 rfl rfl
theorem dX4_readNumbers_5 : decode cX4_readNumbers 5 = .ok (.iconst 0, 1) := zq_0 zo_3 zkX4_readNumbers_0 5 rfl rfl
theorem dX4_readNumbers_6 : decode cX4_readNumbers 6 = .ok (.istore_n 3, 1) := zq_0 zo_62 zkX4_readNumbers_0 6 rfl rfl
theorem dX4_readNumbers_7 : decode cX4_readNumbers 7 = .ok (.iload_n 3, 1) := zq_0 zo_29 zkX4_readNumbers_0 7 rfl rfl
theorem dX4_readNumbers_8 : decode cX4_readNumbers 8 = .ok (.iload_n 2, 1) := zq_0 zo_28 zkX4_readNumbers_0 8 rfl rfl
theorem dX4_readNumbers_9 : decode cX4_readNumbers 9 = .ok (.if_icmp .ge 49, 3) := zq_2s zo_162 zkX4_readNumbers_0 9 rfl rfl 0 49 rfl rfl _ (by decide +kernel)
theorem dX4_readNumbers_12 : decode cX4_readNumbers 12 = .ok (.iload_n 3, 1) := zq_0 zo_29 zkX4_readNumbers_0 12 rfl rfl
theorem dX4_readNumbers_13 : decode cX4_readNumbers 13 = .ok (.bipush 6, 2) := zq_1s zo_16 zkX4_readNumbers_0 13 rfl rfl 6 rfl _ (by decide +kernel)
theorem dX4_readNumbers_15 : decode cX4_readNumbers 15 = .ok (.if_icmp .ge 43, 3) := zq_2s zo_162 zkX4_readNumbers_0 15 rfl rfl 0 43 rfl rfl _ (by decide +kernel)
theorem dX4_readNumbers_18 : decode cX4_readNumbers 18 = .ok (.aload_n 0, 1) := zq_0 zo_42 zkX4_readNumbers_0 18 rfl rfl
theorem dX4_readNumbers_19 : decode cX4_readNumbers 19 = .ok (.invokevirtual 84, 3) := zq_2 zo_182 zkX4_readNumbers_0 19 rfl rfl 0 84 rfl rfl _ rfl
theorem dX4_readNumbers_22 : decode cX4_readNumbers 22 = .ok (.aload_n 0, 1) := zq_0 zo_42 zkX4_readNumbers_0 22 rfl rfl
theorem dX4_readNumbers_23 : decode cX4_readNumbers 23 = .ok (.getfield 87, 3) := zq_2 zo_180 zkX4_readNumbers_0 23 rfl rfl 0 87 rfl rfl _ rfl
theorem dX4_readNumbers_26 : decode cX4_readNumbers 26 = .ok (.iconst 2, 1) := zq_0 zo_5 zkX4_readNumbers_0 26 rfl rfl
theorem dX4_readNumbers_27 : decode cX4_readNumbers 27 = .ok (.if_icmp .eq 5, 3) := zq_2s zo_159 zkX4_readNumbers_0 27 rfl rfl 0 5 rfl rfl _ (by decide +kernel)
theorem dX4_readNumbers_30 : decode cX4_readNumbers 30 = .ok (.iconst 0, 1) := zq_0 zo_3 zkX4_readNumbers_0 30 rfl rfl
theorem dX4_readNumbers_31 : decode cX4_readNumbers 31 = .ok (.ireturn, 1) := zq_0 zo_172 zkX4_readNumbers_0 31 rfl rfl
theorem zkX4_readNumbers_32 : zqc cX4_readNumbers 32 [42, 180, 0, 25, 29, 42, 180, 0, 113, 79, 42, 180, 0, 29, 29, 42, 180, 0, 90, 79, 132, 3, 1, 167, 255, 208, 42, 182, 0, 84, 42, 180, 0, 87] := zq_of 34 (by decide +kernel)
theorem dX4_readNumbers_32 : decode cX4_readNumbers 32 = .ok (.aload_n 0, 1) := zq_0 zo_42 zkX4_readNumbers_32 0 rfl rfl
theorem dX4_readNumbers_33 : decode cX4_readNumbers 33 = .ok (.getfield 25, 3) := zq_2 zo_180 zkX4_readNumbers_32 1 rfl rfl 0 25 rfl rfl _ rfl
theorem dX4_readNumbers_36 : decode cX4_readNumbers 36 = .ok (.iload_n 3, 1) := zq_0 zo_29 zkX4_readNumbers_32 4 rfl rfl
theorem dX4_readNumbers_37 : decode cX4_readNumbers 37 = .ok (.aload_n 0, 1) := zq_0 zo_42 zkX4_readNumbers_32 5 rfl rfl
theorem dX4_readNumbers_38 : decode cX4_readNumbers 38 = .ok (.getfield 113, 3) := zq_2 zo_180 zkX4_readNumbers_32 6 rfl rfl 0 113 rfl rfl _ rfl
theorem dX4_readNumbers_41 : decode cX4_readNumbers 41 = .ok (.iastore, 1) := zq_0 zo_79 zkX4_readNumbers_32 9 rfl rfl
theorem dX4_readNumbers_42 : decode cX4_readNumbers 42 = .ok (.aload_n 0, 1) := zq_0 zo_42 zkX4_readNumbers_32 10 rfl rfl
theorem dX4_readNumbers_43 : decode cX4_readNumbers 43 = .ok (.getfield 29, 3) := zq_2 zo_180 zkX4_readNumbers_32 11 rfl rfl 0 29 rfl rfl _ rfl
theorem dX4_readNumbers_46 : decode cX4_readNumbers 46 = .ok (.iload_n 3, 1) := zq_0 zo_29 zkX4_readNumbers_32 14 rfl rfl
theorem dX4_readNumbers_47 : decode cX4_readNumbers 47 = .ok (.aload_n 0, 1) := zq_0 zo_42 zkX4_readNumbers_32 15 rfl rfl
theorem dX4_readNumbers_48 : decode cX4_readNumbers 48 = .ok (.getfield 90, 3) := zq_2 zo_180 zkX4_readNumbers_32 16 rfl rfl 0 90 rfl rfl _ rfl
theorem dX4_readNumbers_51 : decode cX4_readNumbers 51 = .ok (.iastore, 1) := zq_0 zo_79 zkX4_readNumbers_32 19 rfl rfl
theorem dX4_readNumbers_52 : decode cX4_readNumbers 52 = .ok (.iinc 3 1, 3) := zq_ii zo_132 zkX4_readNumbers_32 20 rfl rfl 3 1 rfl rfl _ (by decide +kernel)
theorem dX4_readNumbers_55 : decode cX4_readNumbers 55 = .ok (.goto (-48), 3) := zq_2s zo_167 zkX4_readNumbers_32 23 rfl rfl 255 208 rfl rfl _ (by decide +kernel)
theorem dX4_readNumbers_58 : decode cX4_readNumbers 58 = .ok (.aload_n 0, 1) := zq_0 zo_42 zkX4_readNumbers_32 26 rfl rfl
theorem dX4_readNumbers_59 : decode cX4_readNumbers 59 = .ok (.invokevirtual 84, 3) := zq_2 zo_182 zkX4_readNumbers_32 27 rfl rfl 0 84 rfl rfl _ rfl
theorem dX4_readNumbers_62 : decode cX4_readNumbers 62 = .ok (.aload_n 0, 1) := zq_0 zo_42 zkX4_readNumbers_32 30 rfl rfl
theorem dX4_readNumbers_63 : decode cX4_readNumbers 63 = .ok (.getfield 87, 3) := zq_2 zo_180 zkX4_readNumbers_32 31 rfl rfl 0 87 rfl rfl _ rfl
theorem zkX4_readNumbers_64 : zqc cX4_readNumbers 64 [0, 87, 6, 160, 0, 7, 4, 167, 0, 4, 3, 172] := zq_of 12 (by decide +kernel)
theorem dX4_readNumbers_66 : decode cX4_readNumbers 66 = .ok (.iconst 3, 1) := zq_0 zo_6 zkX4_readNumbers_64 2 rfl rfl
theorem dX4_readNumbers_67 : decode cX4_readNumbers 67 = .ok (.if_icmp .ne 7, 3) := zq_2s zo_160 zkX4_readNumbers_64 3 rfl rfl 0 7 rfl rfl _ (by decide +kernel)
theorem dX4_readNumbers_70 : decode cX4_readNumbers 70 = .ok (.iconst 1, 1) := zq_0 zo_4 zkX4_readNumbers_64 6 rfl rfl
theorem dX4_readNumbers_71 : decode cX4_readNumbers 71 = .ok (.goto 4, 3) := zq_2s zo_167 zkX4_readNumbers_64 7 rfl rfl 0 4 rfl rfl _ (by decide +kernel)
theorem dX4_readNumbers_74 : decode cX4_readNumbers 74 = .ok (.iconst 0, 1) := zq_0 zo_3 zkX4_readNumbers_64 10 rfl rfl
theorem dX4_readNumbers_75 : decode cX4_readNumbers 75 = .ok (.ireturn, 1) := zq_0 zo_172 zkX4_readNumbers_64 11 rfl rfl
theorem zkX4_tell_0 : zqc cX4_tell 0 [27, 170, 0, 0, 0, 0, 0, 206, 0, 0, 0, 0, 0, 0, 0, 9, 0, 0, 0, 55, 0, 0, 0, 63, 0, 0, 0, 71, 0, 0, 0, 88, 0, 0] := zq_of 34 (by decide +kernel)
theorem dX4_tell_0 : decode cX4_tell 0 = .ok (.iload_n 1, 1) := zq_0 zo_27 zkX4_tell_0 0 rfl rfl
theorem dX4_tell_1 : decode cX4_tell 1 = .ok (.tableswitch 206 0 9 #[55, 63, 71, 88, 104, 122, 140, 158, 176, 195], 55) := by decide +kernel
theorem zkX4_tell_32 : zqc cX4_tell 32 [0, 0, 0, 104, 0, 0, 0, 122, 0, 0, 0, 140, 0, 0, 0, 158, 0, 0, 0, 176, 0, 0, 0, 195, 42, 28, 182, 0, 157, 167, 0, 156, 42, 28] := zq_of 34 (by decide +kernel)
theorem dX4_tell_56 : decode cX4_tell 56 = .ok (.aload_n 0, 1) := zq_0 zo_42 zkX4_tell_32 24 rfl rfl
theorem dX4_tell_57 : decode cX4_tell 57 = .ok (.iload_n 2, 1) := zq_0 zo_28 zkX4_tell_32 25 rfl rfl
theorem dX4_tell_58 : decode cX4_tell 58 = .ok (.invokevirtual 157, 3) := zq_2 zo_182 zkX4_tell_32 26 rfl rfl 0 157 rfl rfl _ rfl
theorem dX4_tell_61 : decode cX4_tell 61 = .ok (.goto 156, 3) := zq_2s zo_167 zkX4_tell_32 29 rfl rfl 0 156 rfl rfl _ (by decide +kernel)
theorem zkX4_tell_64 : zqc cX4_tell 64 [42, 28, 182, 0, 160, 167, 0, 148, 42, 42, 180, 0, 12, 180, 0, 163, 17, 3, 231, 182, 0, 166, 167, 0, 131, 42, 42, 180, 0, 12, 180, 0, 170, 16] := zq_of 34 (by decide +kernel)
theorem dX4_tell_64 : decode cX4_tell 64 = .ok (.aload_n 0, 1) := zq_0 zo_42 zkX4_tell_64 0 rfl rfl
theorem dX4_tell_65 : decode cX4_tell 65 = .ok (.iload_n 2, 1) := zq_0 zo_28 zkX4_tell_64 1 rfl rfl
theorem dX4_tell_66 : decode cX4_tell 66 = .ok (.invokevirtual 160, 3) := zq_2 zo_182 zkX4_tell_64 2 rfl rfl 0 160 rfl rfl _ rfl
theorem dX4_tell_69 : decode cX4_tell 69 = .ok (.goto 148, 3) := zq_2s zo_167 zkX4_tell_64 5 rfl rfl 0 148 rfl rfl _ (by decide +kernel)
theorem dX4_tell_72 : decode cX4_tell 72 = .ok (.aload_n 0, 1) := zq_0 zo_42 zkX4_tell_64 8 rfl rfl
theorem dX4_tell_73 : decode cX4_tell 73 = .ok (.aload_n 0, 1) := zq_0 zo_42 zkX4_tell_64 9 rfl rfl
theorem dX4_tell_74 : decode cX4_tell 74 = .ok (.getfield 12, 3) := zq_2 zo_180 zkX4_tell_64 10 rfl rfl 0 12 rfl rfl _ rfl
theorem dX4_tell_77 : decode cX4_tell 77 = .ok (.getfield 163, 3) := zq_2 zo_180 zkX4_tell_64 13 rfl rfl 0 163 rfl rfl _ rfl
theorem dX4_tell_80 : decode cX4_tell 80 = .ok (.sipush 999, 3) := zq_2s zo_17 zkX4_tell_64 16 rfl rfl 3 231 rfl rfl _ (by decide +kernel)
theorem dX4_tell_83 : decode cX4_tell 83 = .ok (.invokevirtual 166, 3) := zq_2 zo_182 zkX4_tell_64 19 rfl rfl 0 166 rfl rfl _ rfl
theorem dX4_tell_86 : decode cX4_tell 86 = .ok (.goto 131, 3) := zq_2s zo_167 zkX4_tell_64 22 rfl rfl 0 131 rfl rfl _ (by decide +kernel)
theorem dX4_tell_89 : decode cX4_tell 89 = .ok (.aload_n 0, 1) := zq_0 zo_42 zkX4_tell_64 25 rfl rfl
theorem dX4_tell_90 : decode cX4_tell 90 = .ok (.aload_n 0, 1) := zq_0 zo_42 zkX4_tell_64 26 rfl rfl
theorem dX4_tell_91 : decode cX4_tell 91 = .ok (.getfield 12, 3) := zq_2 zo_180 zkX4_tell_64 27 rfl rfl 0 12 rfl rfl _ rfl
theorem dX4_tell_94 : decode cX4_tell 94 = .ok (.getfield 170, 3) := zq_2 zo_180 zkX4_tell_64 30 rfl rfl 0 170 rfl rfl _ rfl
theorem zkX4_tell_96 : zqc cX4_tell 96 [170, 16, 10, 182, 0, 166, 167, 0, 115, 42, 180, 0, 12, 42, 3, 4, 16, 9, 182, 0, 172, 181, 0, 176, 167, 0, 97, 42, 180, 0, 12, 42, 3, 3] := zq_of 34 (by decide +kernel)
theorem dX4_tell_97 : decode cX4_tell 97 = .ok (.bipush 10, 2) := zq_1s zo_16 zkX4_tell_96 1 rfl rfl 10 rfl _ (by decide +kernel)
theorem dX4_tell_99 : decode cX4_tell 99 = .ok (.invokevirtual 166, 3) := zq_2 zo_182 zkX4_tell_96 3 rfl rfl 0 166 rfl rfl _ rfl
theorem dX4_tell_102 : decode cX4_tell 102 = .ok (.goto 115, 3) := zq_2s zo_167 zkX4_tell_96 6 rfl rfl 0 115 rfl rfl _ (by decide +kernel)
theorem dX4_tell_105 : decode cX4_tell 105 = .ok (.aload_n 0, 1) := zq_0 zo_42 zkX4_tell_96 9 rfl rfl
theorem dX4_tell_106 : decode cX4_tell 106 = .ok (.getfield 12, 3) := zq_2 zo_180 zkX4_tell_96 10 rfl rfl 0 12 rfl rfl _ rfl
theorem dX4_tell_109 : decode cX4_tell 109 = .ok (.aload_n 0, 1) := zq_0 zo_42 zkX4_tell_96 13 rfl rfl
theorem dX4_tell_110 : decode cX4_tell 110 = .ok (.iconst 0, 1) := zq_0 zo_3 zkX4_tell_96 14 rfl rfl
theorem dX4_tell_111 : decode cX4_tell 111 = .ok (.iconst 1, 1) := zq_0 zo_4 zkX4_tell_96 15 rfl rfl
theorem dX4_tell_112 : decode cX4_tell 112 = .ok (.bipush 9, 2) := zq_1s zo_16 zkX4_tell_96 16 rfl rfl 9 rfl _ (by decide +kernel)
theorem dX4_tell_114 : decode cX4_tell 114 = .ok (.invokevirtual 172, 3) := zq_2 zo_182 zkX4_tell_96 18 rfl rfl 0 172 rfl rfl _ rfl
theorem dX4_tell_117 : decode cX4_tell 117 = .ok (.putfield 176, 3) := zq_2 zo_181 zkX4_tell_96 21 rfl rfl 0 176 rfl rfl _ rfl
theorem dX4_tell_120 : decode cX4_tell 120 = .ok (.goto 97, 3) := zq_2s zo_167 zkX4_tell_96 24 rfl rfl 0 97 rfl rfl _ (by decide +kernel)
theorem dX4_tell_123 : decode cX4_tell 123 = .ok (.aload_n 0, 1) := zq_0 zo_42 zkX4_tell_96 27 rfl rfl
theorem dX4_tell_124 : decode cX4_tell 124 = .ok (.getfield 12, 3) := zq_2 zo_180 zkX4_tell_96 28 rfl rfl 0 12 rfl rfl _ rfl
theorem dX4_tell_127 : decode cX4_tell 127 = .ok (.aload_n 0, 1) := zq_0 zo_42 zkX4_tell_96 31 rfl rfl
theorem zkX4_tell_128 : zqc cX4_tell 128 [3, 3, 16, 9, 182, 0, 172, 181, 0, 178, 167, 0, 79, 42, 180, 0, 12, 42, 3, 3, 16, 60, 182, 0, 172, 181, 0, 180, 167, 0, 61, 42, 180, 0] := zq_of 34 (by decide +kernel)
theorem dX4_tell_128 : decode cX4_tell 128 = .ok (.iconst 0, 1) := zq_0 zo_3 zkX4_tell_128 0 rfl rfl
theorem dX4_tell_129 : decode cX4_tell 129 = .ok (.iconst 0, 1) := zq_0 zo_3 zkX4_tell_128 1 rfl rfl
theorem dX4_tell_130 : decode cX4_tell 130 = .ok (.bipush 9, 2) := zq_1s zo_16 zkX4_tell_128 2 rfl rfl 9 rfl _ (by decide +kernel)
theorem dX4_tell_132 : decode cX4_tell 132 = .ok (.invokevirtual 172, 3) := zq_2 zo_182 zkX4_tell_128 4 rfl rfl 0 172 rfl rfl _ rfl
theorem dX4_tell_135 : decode cX4_tell 135 = .ok (.putfield 178, 3) := zq_2 zo_181 zkX4_tell_128 7 rfl rfl 0 178 rfl rfl _ rfl
theorem dX4_tell_138 : decode cX4_tell 138 = .ok (.goto 79, 3) := zq_2s zo_167 zkX4_tell_128 10 rfl rfl 0 79 rfl rfl _ (by decide +kernel)
theorem dX4_tell_141 : decode cX4_tell 141 = .ok (.aload_n 0, 1) := zq_0 zo_42 zkX4_tell_128 13 rfl rfl
theorem dX4_tell_142 : decode cX4_tell 142 = .ok (.getfield 12, 3) := zq_2 zo_180 zkX4_tell_128 14 rfl rfl 0 12 rfl rfl _ rfl
theorem dX4_tell_145 : decode cX4_tell 145 = .ok (.aload_n 0, 1) := zq_0 zo_42 zkX4_tell_128 17 rfl rfl
theorem dX4_tell_146 : decode cX4_tell 146 = .ok (.iconst 0, 1) := zq_0 zo_3 zkX4_tell_128 18 rfl rfl
theorem dX4_tell_147 : decode cX4_tell 147 = .ok (.iconst 0, 1) := zq_0 zo_3 zkX4_tell_128 19 rfl rfl
theorem dX4_tell_148 : decode cX4_tell 148 = .ok (.bipush 60, 2) := zq_1s zo_16 zkX4_tell_128 20 rfl rfl 60 rfl _ (by decide +kernel)
theorem dX4_tell_150 : decode cX4_tell 150 = .ok (.invokevirtual 172, 3) := zq_2 zo_182 zkX4_tell_128 22 rfl rfl 0 172 rfl rfl _ rfl
theorem dX4_tell_153 : decode cX4_tell 153 = .ok (.putfield 180, 3) := zq_2 zo_181 zkX4_tell_128 25 rfl rfl 0 180 rfl rfl _ rfl
theorem dX4_tell_156 : decode cX4_tell 156 = .ok (.goto 61, 3) := zq_2s zo_167 zkX4_tell_128 28 rfl rfl 0 61 rfl rfl _ (by decide +kernel)
theorem dX4_tell_159 : decode cX4_tell 159 = .ok (.aload_n 0, 1) := zq_0 zo_42 zkX4_tell_128 31 rfl rfl
theorem zkX4_tell_160 : zqc cX4_tell 160 [180, 0, 12, 42, 3, 3, 16, 9, 182, 0, 172, 181, 0, 182, 167, 0, 43, 42, 180, 0, 12, 42, 3, 3, 17, 3, 231, 182, 0, 172, 181, 0, 184, 167] := zq_of 34 (by decide +kernel)
theorem dX4_tell_160 : decode cX4_tell 160 = .ok (.getfield 12, 3) := zq_2 zo_180 zkX4_tell_160 0 rfl rfl 0 12 rfl rfl _ rfl
theorem dX4_tell_163 : decode cX4_tell 163 = .ok (.aload_n 0, 1) := zq_0 zo_42 zkX4_tell_160 3 rfl rfl
theorem dX4_tell_164 : decode cX4_tell 164 = .ok (.iconst 0, 1) := zq_0 zo_3 zkX4_tell_160 4 rfl rfl
theorem dX4_tell_165 : decode cX4_tell 165 = .ok (.iconst 0, 1) := zq_0 zo_3 zkX4_tell_160 5 rfl rfl
theorem dX4_tell_166 : decode cX4_tell 166 = .ok (.bipush 9, 2) := zq_1s zo_16 zkX4_tell_160 6 rfl rfl 9 rfl _ (by decide +kernel)
theorem dX4_tell_168 : decode cX4_tell 168 = .ok (.invokevirtual 172, 3) := zq_2 zo_182 zkX4_tell_160 8 rfl rfl 0 172 rfl rfl _ rfl
theorem dX4_tell_171 : decode cX4_tell 171 = .ok (.putfield 182, 3) := zq_2 zo_181 zkX4_tell_160 11 rfl rfl 0 182 rfl rfl _ rfl
theorem dX4_tell_174 : decode cX4_tell 174 = .ok (.goto 43, 3) := zq_2s zo_167 zkX4_tell_160 14 rfl rfl 0 43 rfl rfl _ (by decide +kernel)
theorem dX4_tell_177 : decode cX4_tell 177 = .ok (.aload_n 0, 1) := zq_0 zo_42 zkX4_tell_160 17 rfl rfl
theorem dX4_tell_178 : decode cX4_tell 178 = .ok (.getfield 12, 3) := zq_2 zo_180 zkX4_tell_160 18 rfl rfl 0 12 rfl rfl _ rfl
theorem dX4_tell_181 : decode cX4_tell 181 = .ok (.aload_n 0, 1) := zq_0 zo_42 zkX4_tell_160 21 rfl rfl
theorem dX4_tell_182 : decode cX4_tell 182 = .ok (.iconst 0, 1) := zq_0 zo_3 zkX4_tell_160 22 rfl rfl
theorem dX4_tell_183 : decode cX4_tell 183 = .ok (.iconst 0, 1) := zq_0 zo_3 zkX4_tell_160 23 rfl rfl
theorem dX4_tell_184 : decode cX4_tell 184 = .ok (.sipush 999, 3) := zq_2s zo_17 zkX4_tell_160 24 rfl rfl 3 231 rfl rfl _ (by decide +kernel)
theorem dX4_tell_187 : decode cX4_tell 187 = .ok (.invokevirtual 172, 3) := zq_2 zo_182 zkX4_tell_160 27 rfl rfl 0 172 rfl rfl _ rfl
theorem dX4_tell_190 : decode cX4_tell 190 = .ok (.putfield 184, 3) := zq_2 zo_181 zkX4_tell_160 30 rfl rfl 0 184 rfl rfl _ rfl
theorem zkX4_tell_192 : zqc cX4_tell 192 [184, 167, 0, 24, 42, 28, 16, 16, 8, 182, 0, 186, 167, 0, 13, 42, 28, 16, 10, 17, 3, 231, 182, 0, 186, 177] := zq_of 26 (by decide +kernel)
theorem dX4_tell_193 : decode cX4_tell 193 = .ok (.goto 24, 3) := zq_2s zo_167 zkX4_tell_192 1 rfl rfl 0 24 rfl rfl _ (by decide +kernel)
theorem dX4_tell_196 : decode cX4_tell 196 = .ok (.aload_n 0, 1) := zq_0 zo_42 zkX4_tell_192 4 rfl rfl
theorem dX4_tell_197 : decode cX4_tell 197 = .ok (.iload_n 2, 1) := zq_0 zo_28 zkX4_tell_192 5 rfl rfl
theorem dX4_tell_198 : decode cX4_tell 198 = .ok (.bipush 16, 2) := zq_1s zo_16 zkX4_tell_192 6 rfl rfl 16 rfl _ (by decide +kernel)
theorem dX4_tell_200 : decode cX4_tell 200 = .ok (.iconst 5, 1) := zq_0 zo_8 zkX4_tell_192 8 rfl rfl
theorem dX4_tell_201 : decode cX4_tell 201 = .ok (.invokevirtual 186, 3) := zq_2 zo_182 zkX4_tell_192 9 rfl rfl 0 186 rfl rfl _ rfl
theorem dX4_tell_204 : decode cX4_tell 204 = .ok (.goto 13, 3) := zq_2s zo_167 zkX4_tell_192 12 rfl rfl 0 13 rfl rfl _ (by decide +kernel)
theorem dX4_tell_207 : decode cX4_tell 207 = .ok (.aload_n 0, 1) := zq_0 zo_42 zkX4_tell_192 15 rfl rfl
theorem dX4_tell_208 : decode cX4_tell 208 = .ok (.iload_n 2, 1) := zq_0 zo_28 zkX4_tell_192 16 rfl rfl
theorem dX4_tell_209 : decode cX4_tell 209 = .ok (.bipush 10, 2) := zq_1s zo_16 zkX4_tell_192 17 rfl rfl 10 rfl _ (by decide +kernel)
theorem dX4_tell_211 : decode cX4_tell 211 = .ok (.sipush 999, 3) := zq_2s zo_17 zkX4_tell_192 19 rfl rfl 3 231 rfl rfl _ (by decide +kernel)
theorem dX4_tell_214 : decode cX4_tell 214 = .ok (.invokevirtual 186, 3) := zq_2 zo_182 zkX4_tell_192 22 rfl rfl 0 186 rfl rfl _ rfl
theorem dX4_tell_217 : decode cX4_tell 217 = .ok (.return_, 1) := zq_0 zo_177 zkX4_tell_192 25 rfl rfl
theorem zkX4_tellPost_0 : zqc cX4_tellPost 0 [42, 180, 0, 12, 180, 0, 77, 16, 16, 161, 0, 10, 42, 6, 27, 182, 0, 80, 177, 42, 180, 0, 12, 180, 0, 77, 61, 42, 180, 0, 12, 180, 0, 190] := zq_of 34 (by decide +kernel)
theorem dX4_tellPost_0 : decode cX4_tellPost 0 = .ok (.aload_n 0, 1) := zq_0 zo_42 zkX4_tellPost_0 0 rfl rfl
theorem dX4_tellPost_1 : decode cX4_tellPost 1 = .ok (.getfield 12, 3) := zq_2 zo_180 zkX4_tellPost_0 1 rfl rfl 0 12 rfl rfl _ rfl
theorem dX4_tellPost_4 : decode cX4_tellPost 4 = .ok (.getfield 77, 3) := zq_2 zo_180 zkX4_tellPost_0 4 rfl rfl 0 77 rfl rfl _ rfl
theorem dX4_tellPost_7 : decode cX4_tellPost 7 = .ok (.bipush 16, 2) := zq_1s zo_16 zkX4_tellPost_0 7 rfl rfl 16 rfl _ (by decide +kernel)
theorem dX4_tellPost_9 : decode cX4_tellPost 9 = .ok (.if_icmp .lt 10, 3) := zq_2s zo_161 zkX4_tellPost_0 9 rfl rfl 0 10 rfl rfl _ (by decide +kernel)
theorem dX4_tellPost_12 : decode cX4_tellPost 12 = .ok (.aload_n 0, 1) := zq_0 zo_42 zkX4_tellPost_0 12 rfl rfl
theorem dX4_tellPost_13 : decode cX4_tellPost 13 = .ok (.iconst 3, 1) := zq_0 zo_6 zkX4_tellPost_0 13 rfl rfl
theorem dX4_tellPost_14 : decode cX4_tellPost 14 = .ok (.iload_n 1, 1) := zq_0 zo_27 zkX4_tellPost_0 14 rfl rfl
theorem dX4_tellPost_15 : decode cX4_tellPost 15 = .ok (.invokevirtual 80, 3) := zq_2 zo_182 zkX4_tellPost_0 15 rfl rfl 0 80 rfl rfl _ rfl
theorem dX4_tellPost_18 : decode cX4_tellPost 18 = .ok (.return_, 1) := zq_0 zo_177 zkX4_tellPost_0 18 rfl rfl
theorem dX4_tellPost_19 : decode cX4_tellPost 19 = .ok (.aload_n 0, 1) := zq_0 zo_42 zkX4_tellPost_0 19 rfl rfl
theorem dX4_tellPost_20 : decode cX4_tellPost 20 = .ok (.getfield 12, 3) := zq_2 zo_180 zkX4_tellPost_0 20 rfl rfl 0 12 rfl rfl _ rfl
theorem dX4_tellPost_23 : decode cX4_tellPost 23 = .ok (.getfield 77, 3) := zq_2 zo_180 zkX4_tellPost_0 23 rfl rfl 0 77 rfl rfl _ rfl
theorem dX4_tellPost_26 : decode cX4_tellPost 26 = .ok (.istore_n 2, 1) := zq_0 zo_61 zkX4_tellPost_0 26 rfl rfl
theorem dX4_tellPost_27 : decode cX4_tellPost 27 = .ok (.aload_n 0, 1) := zq_0 zo_42 zkX4_tellPost_0 27 rfl rfl
theorem dX4_tellPost_28 : decode cX4_tellPost 28 = .ok (.getfield 12, 3) := zq_2 zo_180 zkX4_tellPost_0 28 rfl rfl 0 12 rfl rfl _ rfl
theorem dX4_tellPost_31 : decode cX4_tellPost 31 = .ok (.getfield 190, 3) := zq_2 zo_180 zkX4_tellPost_0 31 rfl rfl 0 190 rfl rfl _ rfl
theorem zkX4_tellPost_32 : zqc cX4_tellPost 32 [0, 190, 28, 42, 3, 4, 16, 30, 182, 0, 172, 79, 42, 180, 0, 12, 180, 0, 193, 28, 42, 4, 3, 6, 182, 0, 172, 79, 42, 180, 0, 12, 180, 0] := zq_of 34 (by decide +kernel)
theorem dX4_tellPost_34 : decode cX4_tellPost 34 = .ok (.iload_n 2, 1) := zq_0 zo_28 zkX4_tellPost_32 2 rfl rfl
theorem dX4_tellPost_35 : decode cX4_tellPost 35 = .ok (.aload_n 0, 1) := zq_0 zo_42 zkX4_tellPost_32 3 rfl rfl
theorem dX4_tellPost_36 : decode cX4_tellPost 36 = .ok (.iconst 0, 1) := zq_0 zo_3 zkX4_tellPost_32 4 rfl rfl
theorem dX4_tellPost_37 : decode cX4_tellPost 37 = .ok (.iconst 1, 1) := zq_0 zo_4 zkX4_tellPost_32 5 rfl rfl
theorem dX4_tellPost_38 : decode cX4_tellPost 38 = .ok (.bipush 30, 2) := zq_1s zo_16 zkX4_tellPost_32 6 rfl rfl 30 rfl _ (by decide +kernel)
theorem dX4_tellPost_40 : decode cX4_tellPost 40 = .ok (.invokevirtual 172, 3) := zq_2 zo_182 zkX4_tellPost_32 8 rfl rfl 0 172 rfl rfl _ rfl
theorem dX4_tellPost_43 : decode cX4_tellPost 43 = .ok (.iastore, 1) := zq_0 zo_79 zkX4_tellPost_32 11 rfl rfl
theorem dX4_tellPost_44 : decode cX4_tellPost 44 = .ok (.aload_n 0, 1) := zq_0 zo_42 zkX4_tellPost_32 12 rfl rfl
theorem dX4_tellPost_45 : decode cX4_tellPost 45 = .ok (.getfield 12, 3) := zq_2 zo_180 zkX4_tellPost_32 13 rfl rfl 0 12 rfl rfl _ rfl
theorem dX4_tellPost_48 : decode cX4_tellPost 48 = .ok (.getfield 193, 3) := zq_2 zo_180 zkX4_tellPost_32 16 rfl rfl 0 193 rfl rfl _ rfl
theorem dX4_tellPost_51 : decode cX4_tellPost 51 = .ok (.iload_n 2, 1) := zq_0 zo_28 zkX4_tellPost_32 19 rfl rfl
theorem dX4_tellPost_52 : decode cX4_tellPost 52 = .ok (.aload_n 0, 1) := zq_0 zo_42 zkX4_tellPost_32 20 rfl rfl
theorem dX4_tellPost_53 : decode cX4_tellPost 53 = .ok (.iconst 1, 1) := zq_0 zo_4 zkX4_tellPost_32 21 rfl rfl
theorem dX4_tellPost_54 : decode cX4_tellPost 54 = .ok (.iconst 0, 1) := zq_0 zo_3 zkX4_tellPost_32 22 rfl rfl
theorem dX4_tellPost_55 : decode cX4_tellPost 55 = .ok (.iconst 3, 1) := zq_0 zo_6 zkX4_tellPost_32 23 rfl rfl
theorem dX4_tellPost_56 : decode cX4_tellPost 56 = .ok (.invokevirtual 172, 3) := zq_2 zo_182 zkX4_tellPost_32 24 rfl rfl 0 172 rfl rfl _ rfl
theorem dX4_tellPost_59 : decode cX4_tellPost 59 = .ok (.iastore, 1) := zq_0 zo_79 zkX4_tellPost_32 27 rfl rfl
theorem dX4_tellPost_60 : decode cX4_tellPost 60 = .ok (.aload_n 0, 1) := zq_0 zo_42 zkX4_tellPost_32 28 rfl rfl
theorem dX4_tellPost_61 : decode cX4_tellPost 61 = .ok (.getfield 12, 3) := zq_2 zo_180 zkX4_tellPost_32 29 rfl rfl 0 12 rfl rfl _ rfl
theorem zkX4_tellPost_64 : zqc cX4_tellPost 64 [180, 0, 196, 28, 42, 5, 3, 16, 30, 182, 0, 172, 79, 42, 180, 0, 12, 89, 180, 0, 77, 4, 96, 181, 0, 77, 177] := zq_of 27 (by decide +kernel)
theorem dX4_tellPost_64 : decode cX4_tellPost 64 = .ok (.getfield 196, 3) := zq_2 zo_180 zkX4_tellPost_64 0 rfl rfl 0 196 rfl rfl _ rfl
theorem dX4_tellPost_67 : decode cX4_tellPost 67 = .ok (.iload_n 2, 1) := zq_0 zo_28 zkX4_tellPost_64 3 rfl rfl
theorem dX4_tellPost_68 : decode cX4_tellPost 68 = .ok (.aload_n 0, 1) := zq_0 zo_42 zkX4_tellPost_64 4 rfl rfl
theorem dX4_tellPost_69 : decode cX4_tellPost 69 = .ok (.iconst 2, 1) := zq_0 zo_5 zkX4_tellPost_64 5 rfl rfl
theorem dX4_tellPost_70 : decode cX4_tellPost 70 = .ok (.iconst 0, 1) := zq_0 zo_3 zkX4_tellPost_64 6 rfl rfl
theorem dX4_tellPost_71 : decode cX4_tellPost 71 = .ok (.bipush 30, 2) := zq_1s zo_16 zkX4_tellPost_64 7 rfl rfl 30 rfl _ (by decide +kernel)
theorem dX4_tellPost_73 : decode cX4_tellPost 73 = .ok (.invokevirtual 172, 3) := zq_2 zo_182 zkX4_tellPost_64 9 rfl rfl 0 172 rfl rfl _ rfl
theorem dX4_tellPost_76 : decode cX4_tellPost 76 = .ok (.iastore, 1) := zq_0 zo_79 zkX4_tellPost_64 12 rfl rfl
theorem dX4_tellPost_77 : decode cX4_tellPost 77 = .ok (.aload_n 0, 1) := zq_0 zo_42 zkX4_tellPost_64 13 rfl rfl
theorem dX4_tellPost_78 : decode cX4_tellPost 78 = .ok (.getfield 12, 3) := zq_2 zo_180 zkX4_tellPost_64 14 rfl rfl 0 12 rfl rfl _ rfl
theorem dX4_tellPost_81 : decode cX4_tellPost 81 = .ok (.dup, 1) := zq_0 zo_89 zkX4_tellPost_64 17 rfl rfl
theorem dX4_tellPost_82 : decode cX4_tellPost 82 = .ok (.getfield 77, 3) := zq_2 zo_180 zkX4_tellPost_64 18 rfl rfl 0 77 rfl rfl _ rfl
theorem dX4_tellPost_85 : decode cX4_tellPost 85 = .ok (.iconst 1, 1) := zq_0 zo_4 zkX4_tellPost_64 21 rfl rfl
theorem dX4_tellPost_86 : decode cX4_tellPost 86 = .ok (.iadd, 1) := zq_0 zo_96 zkX4_tellPost_64 22 rfl rfl
theorem dX4_tellPost_87 : decode cX4_tellPost 87 = .ok (.putfield 77, 3) := zq_2 zo_181 zkX4_tellPost_64 23 rfl rfl 0 77 rfl rfl _ rfl
theorem dX4_tellPost_90 : decode cX4_tellPost 90 = .ok (.return_, 1) := zq_0 zo_177 zkX4_tellPost_64 26 rfl rfl
theorem zkX4_tellRider_0 : zqc cX4_tellRider 0 [42, 180, 0, 12, 180, 0, 199, 16, 6, 161, 0, 10, 42, 6, 27, 182, 0, 80, 177, 42, 180, 0, 12, 180, 0, 199, 61, 42, 180, 0, 12, 180, 0, 202] := zq_of 34 (by decide +kernel)
theorem dX4_tellRider_0 : decode cX4_tellRider 0 = .ok (.aload_n 0, 1) := zq_0 zo_42 zkX4_tellRider_0 0 rfl rfl
theorem dX4_tellRider_1 : decode cX4_tellRider 1 = .ok (.getfield 12, 3) := zq_2 zo_180 zkX4_tellRider_0 1 rfl rfl 0 12 rfl rfl _ rfl
theorem dX4_tellRider_4 : decode cX4_tellRider 4 = .ok (.getfield 199, 3) := zq_2 zo_180 zkX4_tellRider_0 4 rfl rfl 0 199 rfl rfl _ rfl
theorem dX4_tellRider_7 : decode cX4_tellRider 7 = .ok (.bipush 6, 2) := zq_1s zo_16 zkX4_tellRider_0 7 rfl rfl 6 rfl _ (by decide +kernel)
theorem dX4_tellRider_9 : decode cX4_tellRider 9 = .ok (.if_icmp .lt 10, 3) := zq_2s zo_161 zkX4_tellRider_0 9 rfl rfl 0 10 rfl rfl _ (by decide +kernel)
theorem dX4_tellRider_12 : decode cX4_tellRider 12 = .ok (.aload_n 0, 1) := zq_0 zo_42 zkX4_tellRider_0 12 rfl rfl
theorem dX4_tellRider_13 : decode cX4_tellRider 13 = .ok (.iconst 3, 1) := zq_0 zo_6 zkX4_tellRider_0 13 rfl rfl
theorem dX4_tellRider_14 : decode cX4_tellRider 14 = .ok (.iload_n 1, 1) := zq_0 zo_27 zkX4_tellRider_0 14 rfl rfl
theorem dX4_tellRider_15 : decode cX4_tellRider 15 = .ok (.invokevirtual 80, 3) := zq_2 zo_182 zkX4_tellRider_0 15 rfl rfl 0 80 rfl rfl _ rfl
theorem dX4_tellRider_18 : decode cX4_tellRider 18 = .ok (.return_, 1) := zq_0 zo_177 zkX4_tellRider_0 18 rfl rfl
theorem dX4_tellRider_19 : decode cX4_tellRider 19 = .ok (.aload_n 0, 1) := zq_0 zo_42 zkX4_tellRider_0 19 rfl rfl
theorem dX4_tellRider_20 : decode cX4_tellRider 20 = .ok (.getfield 12, 3) := zq_2 zo_180 zkX4_tellRider_0 20 rfl rfl 0 12 rfl rfl _ rfl
theorem dX4_tellRider_23 : decode cX4_tellRider 23 = .ok (.getfield 199, 3) := zq_2 zo_180 zkX4_tellRider_0 23 rfl rfl 0 199 rfl rfl _ rfl
theorem dX4_tellRider_26 : decode cX4_tellRider 26 = .ok (.istore_n 2, 1) := zq_0 zo_61 zkX4_tellRider_0 26 rfl rfl
theorem dX4_tellRider_27 : decode cX4_tellRider 27 = .ok (.aload_n 0, 1) := zq_0 zo_42 zkX4_tellRider_0 27 rfl rfl
theorem dX4_tellRider_28 : decode cX4_tellRider 28 = .ok (.getfield 12, 3) := zq_2 zo_180 zkX4_tellRider_0 28 rfl rfl 0 12 rfl rfl _ rfl
theorem dX4_tellRider_31 : decode cX4_tellRider 31 = .ok (.getfield 202, 3) := zq_2 zo_180 zkX4_tellRider_0 31 rfl rfl 0 202 rfl rfl _ rfl
theorem zkX4_tellRider_32 : zqc cX4_tellRider 32 [0, 202, 28, 42, 3, 3, 16, 15, 182, 0, 172, 79, 42, 180, 0, 12, 180, 0, 205, 28, 42, 4, 42, 180, 0, 12, 180, 0, 202, 28, 46, 4, 96, 16] := zq_of 34 (by decide +kernel)
theorem dX4_tellRider_34 : decode cX4_tellRider 34 = .ok (.iload_n 2, 1) := zq_0 zo_28 zkX4_tellRider_32 2 rfl rfl
theorem dX4_tellRider_35 : decode cX4_tellRider 35 = .ok (.aload_n 0, 1) := zq_0 zo_42 zkX4_tellRider_32 3 rfl rfl
theorem dX4_tellRider_36 : decode cX4_tellRider 36 = .ok (.iconst 0, 1) := zq_0 zo_3 zkX4_tellRider_32 4 rfl rfl
theorem dX4_tellRider_37 : decode cX4_tellRider 37 = .ok (.iconst 0, 1) := zq_0 zo_3 zkX4_tellRider_32 5 rfl rfl
theorem dX4_tellRider_38 : decode cX4_tellRider 38 = .ok (.bipush 15, 2) := zq_1s zo_16 zkX4_tellRider_32 6 rfl rfl 15 rfl _ (by decide +kernel)
theorem dX4_tellRider_40 : decode cX4_tellRider 40 = .ok (.invokevirtual 172, 3) := zq_2 zo_182 zkX4_tellRider_32 8 rfl rfl 0 172 rfl rfl _ rfl
theorem dX4_tellRider_43 : decode cX4_tellRider 43 = .ok (.iastore, 1) := zq_0 zo_79 zkX4_tellRider_32 11 rfl rfl
theorem dX4_tellRider_44 : decode cX4_tellRider 44 = .ok (.aload_n 0, 1) := zq_0 zo_42 zkX4_tellRider_32 12 rfl rfl
theorem dX4_tellRider_45 : decode cX4_tellRider 45 = .ok (.getfield 12, 3) := zq_2 zo_180 zkX4_tellRider_32 13 rfl rfl 0 12 rfl rfl _ rfl
theorem dX4_tellRider_48 : decode cX4_tellRider 48 = .ok (.getfield 205, 3) := zq_2 zo_180 zkX4_tellRider_32 16 rfl rfl 0 205 rfl rfl _ rfl
theorem dX4_tellRider_51 : decode cX4_tellRider 51 = .ok (.iload_n 2, 1) := zq_0 zo_28 zkX4_tellRider_32 19 rfl rfl
theorem dX4_tellRider_52 : decode cX4_tellRider 52 = .ok (.aload_n 0, 1) := zq_0 zo_42 zkX4_tellRider_32 20 rfl rfl
theorem dX4_tellRider_53 : decode cX4_tellRider 53 = .ok (.iconst 1, 1) := zq_0 zo_4 zkX4_tellRider_32 21 rfl rfl
theorem dX4_tellRider_54 : decode cX4_tellRider 54 = .ok (.aload_n 0, 1) := zq_0 zo_42 zkX4_tellRider_32 22 rfl rfl
theorem dX4_tellRider_55 : decode cX4_tellRider 55 = .ok (.getfield 12, 3) := zq_2 zo_180 zkX4_tellRider_32 23 rfl rfl 0 12 rfl rfl _ rfl
theorem dX4_tellRider_58 : decode cX4_tellRider 58 = .ok (.getfield 202, 3) := zq_2 zo_180 zkX4_tellRider_32 26 rfl rfl 0 202 rfl rfl _ rfl
theorem dX4_tellRider_61 : decode cX4_tellRider 61 = .ok (.iload_n 2, 1) := zq_0 zo_28 zkX4_tellRider_32 29 rfl rfl
theorem dX4_tellRider_62 : decode cX4_tellRider 62 = .ok (.iaload, 1) := zq_0 zo_46 zkX4_tellRider_32 30 rfl rfl
theorem dX4_tellRider_63 : decode cX4_tellRider 63 = .ok (.iconst 1, 1) := zq_0 zo_4 zkX4_tellRider_32 31 rfl rfl
theorem zkX4_tellRider_64 : zqc cX4_tellRider 64 [96, 16, 15, 182, 0, 172, 79, 42, 42, 180, 0, 64, 42, 180, 0, 12, 180, 0, 205, 28, 46, 184, 0, 42, 181, 0, 64, 42, 180, 0, 12, 180, 0, 208] := zq_of 34 (by decide +kernel)
theorem dX4_tellRider_64 : decode cX4_tellRider 64 = .ok (.iadd, 1) := zq_0 zo_96 zkX4_tellRider_64 0 rfl rfl
theorem dX4_tellRider_65 : decode cX4_tellRider 65 = .ok (.bipush 15, 2) := zq_1s zo_16 zkX4_tellRider_64 1 rfl rfl 15 rfl _ (by decide +kernel)
theorem dX4_tellRider_67 : decode cX4_tellRider 67 = .ok (.invokevirtual 172, 3) := zq_2 zo_182 zkX4_tellRider_64 3 rfl rfl 0 172 rfl rfl _ rfl
theorem dX4_tellRider_70 : decode cX4_tellRider 70 = .ok (.iastore, 1) := zq_0 zo_79 zkX4_tellRider_64 6 rfl rfl
theorem dX4_tellRider_71 : decode cX4_tellRider 71 = .ok (.aload_n 0, 1) := zq_0 zo_42 zkX4_tellRider_64 7 rfl rfl
theorem dX4_tellRider_72 : decode cX4_tellRider 72 = .ok (.aload_n 0, 1) := zq_0 zo_42 zkX4_tellRider_64 8 rfl rfl
theorem dX4_tellRider_73 : decode cX4_tellRider 73 = .ok (.getfield 64, 3) := zq_2 zo_180 zkX4_tellRider_64 9 rfl rfl 0 64 rfl rfl _ rfl
theorem dX4_tellRider_76 : decode cX4_tellRider 76 = .ok (.aload_n 0, 1) := zq_0 zo_42 zkX4_tellRider_64 12 rfl rfl
theorem dX4_tellRider_77 : decode cX4_tellRider 77 = .ok (.getfield 12, 3) := zq_2 zo_180 zkX4_tellRider_64 13 rfl rfl 0 12 rfl rfl _ rfl
theorem dX4_tellRider_80 : decode cX4_tellRider 80 = .ok (.getfield 205, 3) := zq_2 zo_180 zkX4_tellRider_64 16 rfl rfl 0 205 rfl rfl _ rfl
theorem dX4_tellRider_83 : decode cX4_tellRider 83 = .ok (.iload_n 2, 1) := zq_0 zo_28 zkX4_tellRider_64 19 rfl rfl
theorem dX4_tellRider_84 : decode cX4_tellRider 84 = .ok (.iaload, 1) := zq_0 zo_46 zkX4_tellRider_64 20 rfl rfl
theorem dX4_tellRider_85 : decode cX4_tellRider 85 = .ok (.invokestatic 42, 3) := zq_2 zo_184 zkX4_tellRider_64 21 rfl rfl 0 42 rfl rfl _ rfl
theorem dX4_tellRider_88 : decode cX4_tellRider 88 = .ok (.putfield 64, 3) := zq_2 zo_181 zkX4_tellRider_64 24 rfl rfl 0 64 rfl rfl _ rfl
theorem dX4_tellRider_91 : decode cX4_tellRider 91 = .ok (.aload_n 0, 1) := zq_0 zo_42 zkX4_tellRider_64 27 rfl rfl
theorem dX4_tellRider_92 : decode cX4_tellRider 92 = .ok (.getfield 12, 3) := zq_2 zo_180 zkX4_tellRider_64 28 rfl rfl 0 12 rfl rfl _ rfl
theorem dX4_tellRider_95 : decode cX4_tellRider 95 = .ok (.getfield 208, 3) := zq_2 zo_180 zkX4_tellRider_64 31 rfl rfl 0 208 rfl rfl _ rfl
theorem zkX4_tellRider_96 : zqc cX4_tellRider 96 [0, 208, 28, 42, 5, 4, 16, 60, 182, 0, 172, 79, 42, 180, 0, 12, 180, 0, 211, 28, 42, 6, 4, 16, 30, 182, 0, 172, 79, 42, 180, 0, 12, 180] := zq_of 34 (by decide +kernel)
theorem dX4_tellRider_98 : decode cX4_tellRider 98 = .ok (.iload_n 2, 1) := zq_0 zo_28 zkX4_tellRider_96 2 rfl rfl
theorem dX4_tellRider_99 : decode cX4_tellRider 99 = .ok (.aload_n 0, 1) := zq_0 zo_42 zkX4_tellRider_96 3 rfl rfl
theorem dX4_tellRider_100 : decode cX4_tellRider 100 = .ok (.iconst 2, 1) := zq_0 zo_5 zkX4_tellRider_96 4 rfl rfl
theorem dX4_tellRider_101 : decode cX4_tellRider 101 = .ok (.iconst 1, 1) := zq_0 zo_4 zkX4_tellRider_96 5 rfl rfl
theorem dX4_tellRider_102 : decode cX4_tellRider 102 = .ok (.bipush 60, 2) := zq_1s zo_16 zkX4_tellRider_96 6 rfl rfl 60 rfl _ (by decide +kernel)
theorem dX4_tellRider_104 : decode cX4_tellRider 104 = .ok (.invokevirtual 172, 3) := zq_2 zo_182 zkX4_tellRider_96 8 rfl rfl 0 172 rfl rfl _ rfl
theorem dX4_tellRider_107 : decode cX4_tellRider 107 = .ok (.iastore, 1) := zq_0 zo_79 zkX4_tellRider_96 11 rfl rfl
theorem dX4_tellRider_108 : decode cX4_tellRider 108 = .ok (.aload_n 0, 1) := zq_0 zo_42 zkX4_tellRider_96 12 rfl rfl
theorem dX4_tellRider_109 : decode cX4_tellRider 109 = .ok (.getfield 12, 3) := zq_2 zo_180 zkX4_tellRider_96 13 rfl rfl 0 12 rfl rfl _ rfl
theorem dX4_tellRider_112 : decode cX4_tellRider 112 = .ok (.getfield 211, 3) := zq_2 zo_180 zkX4_tellRider_96 16 rfl rfl 0 211 rfl rfl _ rfl
theorem dX4_tellRider_115 : decode cX4_tellRider 115 = .ok (.iload_n 2, 1) := zq_0 zo_28 zkX4_tellRider_96 19 rfl rfl
theorem dX4_tellRider_116 : decode cX4_tellRider 116 = .ok (.aload_n 0, 1) := zq_0 zo_42 zkX4_tellRider_96 20 rfl rfl
theorem dX4_tellRider_117 : decode cX4_tellRider 117 = .ok (.iconst 3, 1) := zq_0 zo_6 zkX4_tellRider_96 21 rfl rfl
theorem dX4_tellRider_118 : decode cX4_tellRider 118 = .ok (.iconst 1, 1) := zq_0 zo_4 zkX4_tellRider_96 22 rfl rfl
theorem dX4_tellRider_119 : decode cX4_tellRider 119 = .ok (.bipush 30, 2) := zq_1s zo_16 zkX4_tellRider_96 23 rfl rfl 30 rfl _ (by decide +kernel)
theorem dX4_tellRider_121 : decode cX4_tellRider 121 = .ok (.invokevirtual 172, 3) := zq_2 zo_182 zkX4_tellRider_96 25 rfl rfl 0 172 rfl rfl _ rfl
theorem dX4_tellRider_124 : decode cX4_tellRider 124 = .ok (.iastore, 1) := zq_0 zo_79 zkX4_tellRider_96 28 rfl rfl
theorem dX4_tellRider_125 : decode cX4_tellRider 125 = .ok (.aload_n 0, 1) := zq_0 zo_42 zkX4_tellRider_96 29 rfl rfl
theorem dX4_tellRider_126 : decode cX4_tellRider 126 = .ok (.getfield 12, 3) := zq_2 zo_180 zkX4_tellRider_96 30 rfl rfl 0 12 rfl rfl _ rfl
theorem zkX4_tellRider_128 : zqc cX4_tellRider 128 [12, 180, 0, 214, 28, 42, 7, 3, 17, 0, 200, 182, 0, 172, 79, 42, 180, 0, 12, 180, 0, 217, 28, 42, 8, 3, 16, 9, 182, 0, 172, 79, 42, 180] := zq_of 34 (by decide +kernel)
theorem dX4_tellRider_129 : decode cX4_tellRider 129 = .ok (.getfield 214, 3) := zq_2 zo_180 zkX4_tellRider_128 1 rfl rfl 0 214 rfl rfl _ rfl
theorem dX4_tellRider_132 : decode cX4_tellRider 132 = .ok (.iload_n 2, 1) := zq_0 zo_28 zkX4_tellRider_128 4 rfl rfl
theorem dX4_tellRider_133 : decode cX4_tellRider 133 = .ok (.aload_n 0, 1) := zq_0 zo_42 zkX4_tellRider_128 5 rfl rfl
theorem dX4_tellRider_134 : decode cX4_tellRider 134 = .ok (.iconst 4, 1) := zq_0 zo_7 zkX4_tellRider_128 6 rfl rfl
theorem dX4_tellRider_135 : decode cX4_tellRider 135 = .ok (.iconst 0, 1) := zq_0 zo_3 zkX4_tellRider_128 7 rfl rfl
theorem dX4_tellRider_136 : decode cX4_tellRider 136 = .ok (.sipush 200, 3) := zq_2s zo_17 zkX4_tellRider_128 8 rfl rfl 0 200 rfl rfl _ (by decide +kernel)
theorem dX4_tellRider_139 : decode cX4_tellRider 139 = .ok (.invokevirtual 172, 3) := zq_2 zo_182 zkX4_tellRider_128 11 rfl rfl 0 172 rfl rfl _ rfl
theorem dX4_tellRider_142 : decode cX4_tellRider 142 = .ok (.iastore, 1) := zq_0 zo_79 zkX4_tellRider_128 14 rfl rfl
theorem dX4_tellRider_143 : decode cX4_tellRider 143 = .ok (.aload_n 0, 1) := zq_0 zo_42 zkX4_tellRider_128 15 rfl rfl
theorem dX4_tellRider_144 : decode cX4_tellRider 144 = .ok (.getfield 12, 3) := zq_2 zo_180 zkX4_tellRider_128 16 rfl rfl 0 12 rfl rfl _ rfl
theorem dX4_tellRider_147 : decode cX4_tellRider 147 = .ok (.getfield 217, 3) := zq_2 zo_180 zkX4_tellRider_128 19 rfl rfl 0 217 rfl rfl _ rfl
theorem dX4_tellRider_150 : decode cX4_tellRider 150 = .ok (.iload_n 2, 1) := zq_0 zo_28 zkX4_tellRider_128 22 rfl rfl
theorem dX4_tellRider_151 : decode cX4_tellRider 151 = .ok (.aload_n 0, 1) := zq_0 zo_42 zkX4_tellRider_128 23 rfl rfl
theorem dX4_tellRider_152 : decode cX4_tellRider 152 = .ok (.iconst 5, 1) := zq_0 zo_8 zkX4_tellRider_128 24 rfl rfl
theorem dX4_tellRider_153 : decode cX4_tellRider 153 = .ok (.iconst 0, 1) := zq_0 zo_3 zkX4_tellRider_128 25 rfl rfl
theorem dX4_tellRider_154 : decode cX4_tellRider 154 = .ok (.bipush 9, 2) := zq_1s zo_16 zkX4_tellRider_128 26 rfl rfl 9 rfl _ (by decide +kernel)
theorem dX4_tellRider_156 : decode cX4_tellRider 156 = .ok (.invokevirtual 172, 3) := zq_2 zo_182 zkX4_tellRider_128 28 rfl rfl 0 172 rfl rfl _ rfl
theorem dX4_tellRider_159 : decode cX4_tellRider 159 = .ok (.iastore, 1) := zq_0 zo_79 zkX4_tellRider_128 31 rfl rfl
theorem zkX4_tellRider_160 : zqc cX4_tellRider 160 [42, 180, 0, 12, 89, 180, 0, 199, 4, 96, 181, 0, 199, 177] := zq_of 14 (by decide +kernel)
theorem dX4_tellRider_160 : decode cX4_tellRider 160 = .ok (.aload_n 0, 1) := zq_0 zo_42 zkX4_tellRider_160 0 rfl rfl
theorem dX4_tellRider_161 : decode cX4_tellRider 161 = .ok (.getfield 12, 3) := zq_2 zo_180 zkX4_tellRider_160 1 rfl rfl 0 12 rfl rfl _ rfl
theorem dX4_tellRider_164 : decode cX4_tellRider 164 = .ok (.dup, 1) := zq_0 zo_89 zkX4_tellRider_160 4 rfl rfl
theorem dX4_tellRider_165 : decode cX4_tellRider 165 = .ok (.getfield 199, 3) := zq_2 zo_180 zkX4_tellRider_160 5 rfl rfl 0 199 rfl rfl _ rfl
theorem dX4_tellRider_168 : decode cX4_tellRider 168 = .ok (.iconst 1, 1) := zq_0 zo_4 zkX4_tellRider_160 8 rfl rfl
theorem dX4_tellRider_169 : decode cX4_tellRider 169 = .ok (.iadd, 1) := zq_0 zo_96 zkX4_tellRider_160 9 rfl rfl
theorem dX4_tellRider_170 : decode cX4_tellRider 170 = .ok (.putfield 199, 3) := zq_2 zo_181 zkX4_tellRider_160 10 rfl rfl 0 199 rfl rfl _ rfl
theorem dX4_tellRider_173 : decode cX4_tellRider 173 = .ok (.return_, 1) := zq_0 zo_177 zkX4_tellRider_160 13 rfl rfl
theorem zkX4_tellOfPost_0 : zqc cX4_tellOfPost 0 [42, 3, 3, 16, 15, 182, 0, 172, 62, 42, 4, 3, 28, 182, 0, 172, 54, 4, 42, 42, 180, 0, 64, 29, 184, 0, 42, 181, 0, 64, 29, 155, 0, 14] := zq_of 34 (by decide +kernel)
theorem dX4_tellOfPost_0 : decode cX4_tellOfPost 0 = .ok (.aload_n 0, 1) := zq_0 zo_42 zkX4_tellOfPost_0 0 rfl rfl
theorem dX4_tellOfPost_1 : decode cX4_tellOfPost 1 = .ok (.iconst 0, 1) := zq_0 zo_3 zkX4_tellOfPost_0 1 rfl rfl
theorem dX4_tellOfPost_2 : decode cX4_tellOfPost 2 = .ok (.iconst 0, 1) := zq_0 zo_3 zkX4_tellOfPost_0 2 rfl rfl
theorem dX4_tellOfPost_3 : decode cX4_tellOfPost 3 = .ok (.bipush 15, 2) := zq_1s zo_16 zkX4_tellOfPost_0 3 rfl rfl 15 rfl _ (by decide +kernel)
theorem dX4_tellOfPost_5 : decode cX4_tellOfPost 5 = .ok (.invokevirtual 172, 3) := zq_2 zo_182 zkX4_tellOfPost_0 5 rfl rfl 0 172 rfl rfl _ rfl
theorem dX4_tellOfPost_8 : decode cX4_tellOfPost 8 = .ok (.istore_n 3, 1) := zq_0 zo_62 zkX4_tellOfPost_0 8 rfl rfl
theorem dX4_tellOfPost_9 : decode cX4_tellOfPost 9 = .ok (.aload_n 0, 1) := zq_0 zo_42 zkX4_tellOfPost_0 9 rfl rfl
theorem dX4_tellOfPost_10 : decode cX4_tellOfPost 10 = .ok (.iconst 1, 1) := zq_0 zo_4 zkX4_tellOfPost_0 10 rfl rfl
theorem dX4_tellOfPost_11 : decode cX4_tellOfPost 11 = .ok (.iconst 0, 1) := zq_0 zo_3 zkX4_tellOfPost_0 11 rfl rfl
theorem dX4_tellOfPost_12 : decode cX4_tellOfPost 12 = .ok (.iload_n 2, 1) := zq_0 zo_28 zkX4_tellOfPost_0 12 rfl rfl
theorem dX4_tellOfPost_13 : decode cX4_tellOfPost 13 = .ok (.invokevirtual 172, 3) := zq_2 zo_182 zkX4_tellOfPost_0 13 rfl rfl 0 172 rfl rfl _ rfl
theorem dX4_tellOfPost_16 : decode cX4_tellOfPost 16 = .ok (.istore 4, 2) := zq_1 zo_54 zkX4_tellOfPost_0 16 rfl rfl 4 rfl
theorem dX4_tellOfPost_18 : decode cX4_tellOfPost 18 = .ok (.aload_n 0, 1) := zq_0 zo_42 zkX4_tellOfPost_0 18 rfl rfl
theorem dX4_tellOfPost_19 : decode cX4_tellOfPost 19 = .ok (.aload_n 0, 1) := zq_0 zo_42 zkX4_tellOfPost_0 19 rfl rfl
theorem dX4_tellOfPost_20 : decode cX4_tellOfPost 20 = .ok (.getfield 64, 3) := zq_2 zo_180 zkX4_tellOfPost_0 20 rfl rfl 0 64 rfl rfl _ rfl
theorem dX4_tellOfPost_23 : decode cX4_tellOfPost 23 = .ok (.iload_n 3, 1) := zq_0 zo_29 zkX4_tellOfPost_0 23 rfl rfl
theorem dX4_tellOfPost_24 : decode cX4_tellOfPost 24 = .ok (.invokestatic 42, 3) := zq_2 zo_184 zkX4_tellOfPost_0 24 rfl rfl 0 42 rfl rfl _ rfl
theorem dX4_tellOfPost_27 : decode cX4_tellOfPost 27 = .ok (.putfield 64, 3) := zq_2 zo_181 zkX4_tellOfPost_0 27 rfl rfl 0 64 rfl rfl _ rfl
theorem dX4_tellOfPost_30 : decode cX4_tellOfPost 30 = .ok (.iload_n 3, 1) := zq_0 zo_29 zkX4_tellOfPost_0 30 rfl rfl
theorem dX4_tellOfPost_31 : decode cX4_tellOfPost 31 = .ok (.ifCond .lt 14, 3) := zq_2s zo_155 zkX4_tellOfPost_0 31 rfl rfl 0 14 rfl rfl _ (by decide +kernel)
theorem zkX4_tellOfPost_32 : zqc cX4_tellOfPost 32 [0, 14, 29, 43, 190, 162, 0, 8, 43, 29, 21, 4, 79, 177] := zq_of 14 (by decide +kernel)
theorem dX4_tellOfPost_34 : decode cX4_tellOfPost 34 = .ok (.iload_n 3, 1) := zq_0 zo_29 zkX4_tellOfPost_32 2 rfl rfl
theorem dX4_tellOfPost_35 : decode cX4_tellOfPost 35 = .ok (.aload_n 1, 1) := zq_0 zo_43 zkX4_tellOfPost_32 3 rfl rfl
theorem dX4_tellOfPost_36 : decode cX4_tellOfPost 36 = .ok (.arraylength, 1) := zq_0 zo_190 zkX4_tellOfPost_32 4 rfl rfl
theorem dX4_tellOfPost_37 : decode cX4_tellOfPost 37 = .ok (.if_icmp .ge 8, 3) := zq_2s zo_162 zkX4_tellOfPost_32 5 rfl rfl 0 8 rfl rfl _ (by decide +kernel)
theorem dX4_tellOfPost_40 : decode cX4_tellOfPost 40 = .ok (.aload_n 1, 1) := zq_0 zo_43 zkX4_tellOfPost_32 8 rfl rfl
theorem dX4_tellOfPost_41 : decode cX4_tellOfPost 41 = .ok (.iload_n 3, 1) := zq_0 zo_29 zkX4_tellOfPost_32 9 rfl rfl
theorem dX4_tellOfPost_42 : decode cX4_tellOfPost 42 = .ok (.iload 4, 2) := zq_1 zo_21 zkX4_tellOfPost_32 10 rfl rfl 4 rfl
theorem dX4_tellOfPost_44 : decode cX4_tellOfPost 44 = .ok (.iastore, 1) := zq_0 zo_79 zkX4_tellOfPost_32 12 rfl rfl
theorem dX4_tellOfPost_45 : decode cX4_tellOfPost 45 = .ok (.return_, 1) := zq_0 zo_177 zkX4_tellOfPost_32 13 rfl rfl
theorem zkX4_tellPair_0 : zqc cX4_tellPair 0 [42, 180, 0, 21, 180, 0, 70, 28, 161, 0, 10, 42, 6, 27, 182, 0, 80, 177, 42, 3, 3, 16, 15, 182, 0, 172, 54, 4, 42, 180, 0, 21, 21, 4] := zq_of 34 (by decide +kernel)
theorem dX4_tellPair_0 : decode cX4_tellPair 0 = .ok (.aload_n 0, 1) := zq_0 zo_42 zkX4_tellPair_0 0 rfl rfl
theorem dX4_tellPair_1 : decode cX4_tellPair 1 = .ok (.getfield 21, 3) := zq_2 zo_180 zkX4_tellPair_0 1 rfl rfl 0 21 rfl rfl _ rfl
theorem dX4_tellPair_4 : decode cX4_tellPair 4 = .ok (.getfield 70, 3) := zq_2 zo_180 zkX4_tellPair_0 4 rfl rfl 0 70 rfl rfl _ rfl
theorem dX4_tellPair_7 : decode cX4_tellPair 7 = .ok (.iload_n 2, 1) := zq_0 zo_28 zkX4_tellPair_0 7 rfl rfl
theorem dX4_tellPair_8 : decode cX4_tellPair 8 = .ok (.if_icmp .lt 10, 3) := zq_2s zo_161 zkX4_tellPair_0 8 rfl rfl 0 10 rfl rfl _ (by decide +kernel)
theorem dX4_tellPair_11 : decode cX4_tellPair 11 = .ok (.aload_n 0, 1) := zq_0 zo_42 zkX4_tellPair_0 11 rfl rfl
theorem dX4_tellPair_12 : decode cX4_tellPair 12 = .ok (.iconst 3, 1) := zq_0 zo_6 zkX4_tellPair_0 12 rfl rfl
theorem dX4_tellPair_13 : decode cX4_tellPair 13 = .ok (.iload_n 1, 1) := zq_0 zo_27 zkX4_tellPair_0 13 rfl rfl
theorem dX4_tellPair_14 : decode cX4_tellPair 14 = .ok (.invokevirtual 80, 3) := zq_2 zo_182 zkX4_tellPair_0 14 rfl rfl 0 80 rfl rfl _ rfl
theorem dX4_tellPair_17 : decode cX4_tellPair 17 = .ok (.return_, 1) := zq_0 zo_177 zkX4_tellPair_0 17 rfl rfl
theorem dX4_tellPair_18 : decode cX4_tellPair 18 = .ok (.aload_n 0, 1) := zq_0 zo_42 zkX4_tellPair_0 18 rfl rfl
theorem dX4_tellPair_19 : decode cX4_tellPair 19 = .ok (.iconst 0, 1) := zq_0 zo_3 zkX4_tellPair_0 19 rfl rfl
theorem dX4_tellPair_20 : decode cX4_tellPair 20 = .ok (.iconst 0, 1) := zq_0 zo_3 zkX4_tellPair_0 20 rfl rfl
theorem dX4_tellPair_21 : decode cX4_tellPair 21 = .ok (.bipush 15, 2) := zq_1s zo_16 zkX4_tellPair_0 21 rfl rfl 15 rfl _ (by decide +kernel)
theorem dX4_tellPair_23 : decode cX4_tellPair 23 = .ok (.invokevirtual 172, 3) := zq_2 zo_182 zkX4_tellPair_0 23 rfl rfl 0 172 rfl rfl _ rfl
theorem dX4_tellPair_26 : decode cX4_tellPair 26 = .ok (.istore 4, 2) := zq_1 zo_54 zkX4_tellPair_0 26 rfl rfl 4 rfl
theorem dX4_tellPair_28 : decode cX4_tellPair 28 = .ok (.aload_n 0, 1) := zq_0 zo_42 zkX4_tellPair_0 28 rfl rfl
theorem dX4_tellPair_29 : decode cX4_tellPair 29 = .ok (.getfield 21, 3) := zq_2 zo_180 zkX4_tellPair_0 29 rfl rfl 0 21 rfl rfl _ rfl
theorem zkX4_tellPair_32 : zqc cX4_tellPair 32 [21, 4, 42, 4, 3, 29, 182, 0, 172, 182, 0, 220, 177] := zq_of 13 (by decide +kernel)
theorem dX4_tellPair_32 : decode cX4_tellPair 32 = .ok (.iload 4, 2) := zq_1 zo_21 zkX4_tellPair_32 0 rfl rfl 4 rfl
theorem dX4_tellPair_34 : decode cX4_tellPair 34 = .ok (.aload_n 0, 1) := zq_0 zo_42 zkX4_tellPair_32 2 rfl rfl
theorem dX4_tellPair_35 : decode cX4_tellPair 35 = .ok (.iconst 1, 1) := zq_0 zo_4 zkX4_tellPair_32 3 rfl rfl
theorem dX4_tellPair_36 : decode cX4_tellPair 36 = .ok (.iconst 0, 1) := zq_0 zo_3 zkX4_tellPair_32 4 rfl rfl
theorem dX4_tellPair_37 : decode cX4_tellPair 37 = .ok (.iload_n 3, 1) := zq_0 zo_29 zkX4_tellPair_32 5 rfl rfl
theorem dX4_tellPair_38 : decode cX4_tellPair 38 = .ok (.invokevirtual 172, 3) := zq_2 zo_182 zkX4_tellPair_32 6 rfl rfl 0 172 rfl rfl _ rfl
theorem dX4_tellPair_41 : decode cX4_tellPair 41 = .ok (.invokevirtual 220, 3) := zq_2 zo_182 zkX4_tellPair_32 9 rfl rfl 0 220 rfl rfl _ rfl
theorem dX4_tellPair_44 : decode cX4_tellPair 44 = .ok (.return_, 1) := zq_0 zo_177 zkX4_tellPair_32 12 rfl rfl
theorem zkX4_number_0 : zqc cX4_number 0 [27, 155, 0, 9, 27, 16, 6, 161, 0, 5, 2, 172, 42, 180, 0, 25, 27, 46, 28, 161, 0, 13, 42, 180, 0, 25, 27, 46, 29, 164, 0, 14, 42, 5] := zq_of 34 (by decide +kernel)
theorem dX4_number_0 : decode cX4_number 0 = .ok (.iload_n 1, 1) := zq_0 zo_27 zkX4_number_0 0 rfl rfl
theorem dX4_number_1 : decode cX4_number 1 = .ok (.ifCond .lt 9, 3) := zq_2s zo_155 zkX4_number_0 1 rfl rfl 0 9 rfl rfl _ (by decide +kernel)
theorem dX4_number_4 : decode cX4_number 4 = .ok (.iload_n 1, 1) := zq_0 zo_27 zkX4_number_0 4 rfl rfl
theorem dX4_number_5 : decode cX4_number 5 = .ok (.bipush 6, 2) := zq_1s zo_16 zkX4_number_0 5 rfl rfl 6 rfl _ (by decide +kernel)
theorem dX4_number_7 : decode cX4_number 7 = .ok (.if_icmp .lt 5, 3) := zq_2s zo_161 zkX4_number_0 7 rfl rfl 0 5 rfl rfl _ (by decide +kernel)
theorem dX4_number_10 : decode cX4_number 10 = .ok (.iconst (-1), 1) := zq_0 zo_2 zkX4_number_0 10 rfl rfl
theorem dX4_number_11 : decode cX4_number 11 = .ok (.ireturn, 1) := zq_0 zo_172 zkX4_number_0 11 rfl rfl
theorem dX4_number_12 : decode cX4_number 12 = .ok (.aload_n 0, 1) := zq_0 zo_42 zkX4_number_0 12 rfl rfl
theorem dX4_number_13 : decode cX4_number 13 = .ok (.getfield 25, 3) := zq_2 zo_180 zkX4_number_0 13 rfl rfl 0 25 rfl rfl _ rfl
theorem dX4_number_16 : decode cX4_number 16 = .ok (.iload_n 1, 1) := zq_0 zo_27 zkX4_number_0 16 rfl rfl
theorem dX4_number_17 : decode cX4_number 17 = .ok (.iaload, 1) := zq_0 zo_46 zkX4_number_0 17 rfl rfl
theorem dX4_number_18 : decode cX4_number 18 = .ok (.iload_n 2, 1) := zq_0 zo_28 zkX4_number_0 18 rfl rfl
theorem dX4_number_19 : decode cX4_number 19 = .ok (.if_icmp .lt 13, 3) := zq_2s zo_161 zkX4_number_0 19 rfl rfl 0 13 rfl rfl _ (by decide +kernel)
theorem dX4_number_22 : decode cX4_number 22 = .ok (.aload_n 0, 1) := zq_0 zo_42 zkX4_number_0 22 rfl rfl
theorem dX4_number_23 : decode cX4_number 23 = .ok (.getfield 25, 3) := zq_2 zo_180 zkX4_number_0 23 rfl rfl 0 25 rfl rfl _ rfl
theorem dX4_number_26 : decode cX4_number 26 = .ok (.iload_n 1, 1) := zq_0 zo_27 zkX4_number_0 26 rfl rfl
theorem dX4_number_27 : decode cX4_number 27 = .ok (.iaload, 1) := zq_0 zo_46 zkX4_number_0 27 rfl rfl
theorem dX4_number_28 : decode cX4_number 28 = .ok (.iload_n 3, 1) := zq_0 zo_29 zkX4_number_0 28 rfl rfl
theorem dX4_number_29 : decode cX4_number 29 = .ok (.if_icmp .le 14, 3) := zq_2s zo_164 zkX4_number_0 29 rfl rfl 0 14 rfl rfl _ (by decide +kernel)
theorem zkX4_number_32 : zqc cX4_number 32 [42, 5, 42, 180, 0, 29, 27, 46, 182, 0, 80, 42, 180, 0, 25, 27, 46, 172] := zq_of 18 (by decide +kernel)
theorem dX4_number_32 : decode cX4_number 32 = .ok (.aload_n 0, 1) := zq_0 zo_42 zkX4_number_32 0 rfl rfl
theorem dX4_number_33 : decode cX4_number 33 = .ok (.iconst 2, 1) := zq_0 zo_5 zkX4_number_32 1 rfl rfl
theorem dX4_number_34 : decode cX4_number 34 = .ok (.aload_n 0, 1) := zq_0 zo_42 zkX4_number_32 2 rfl rfl
theorem dX4_number_35 : decode cX4_number 35 = .ok (.getfield 29, 3) := zq_2 zo_180 zkX4_number_32 3 rfl rfl 0 29 rfl rfl _ rfl
theorem dX4_number_38 : decode cX4_number 38 = .ok (.iload_n 1, 1) := zq_0 zo_27 zkX4_number_32 6 rfl rfl
theorem dX4_number_39 : decode cX4_number 39 = .ok (.iaload, 1) := zq_0 zo_46 zkX4_number_32 7 rfl rfl
theorem dX4_number_40 : decode cX4_number 40 = .ok (.invokevirtual 80, 3) := zq_2 zo_182 zkX4_number_32 8 rfl rfl 0 80 rfl rfl _ rfl
theorem dX4_number_43 : decode cX4_number 43 = .ok (.aload_n 0, 1) := zq_0 zo_42 zkX4_number_32 11 rfl rfl
theorem dX4_number_44 : decode cX4_number 44 = .ok (.getfield 25, 3) := zq_2 zo_180 zkX4_number_32 12 rfl rfl 0 25 rfl rfl _ rfl
theorem dX4_number_47 : decode cX4_number 47 = .ok (.iload_n 1, 1) := zq_0 zo_27 zkX4_number_32 15 rfl rfl
theorem dX4_number_48 : decode cX4_number 48 = .ok (.iaload, 1) := zq_0 zo_46 zkX4_number_32 16 rfl rfl
theorem dX4_number_49 : decode cX4_number 49 = .ok (.ireturn, 1) := zq_0 zo_172 zkX4_number_32 17 rfl rfl
theorem zkX4_note_0 : zqc cX4_note 0 [42, 180, 0, 58, 154, 0, 13, 42, 27, 181, 0, 58, 42, 28, 181, 0, 61, 177] := zq_of 18 (by decide +kernel)
theorem dX4_note_0 : decode cX4_note 0 = .ok (.aload_n 0, 1) := zq_0 zo_42 zkX4_note_0 0 rfl rfl
theorem dX4_note_1 : decode cX4_note 1 = .ok (.getfield 58, 3) := zq_2 zo_180 zkX4_note_0 1 rfl rfl 0 58 rfl rfl _ rfl
theorem dX4_note_4 : decode cX4_note 4 = .ok (.ifCond .ne 13, 3) := zq_2s zo_154 zkX4_note_0 4 rfl rfl 0 13 rfl rfl _ (by decide +kernel)
theorem dX4_note_7 : decode cX4_note 7 = .ok (.aload_n 0, 1) := zq_0 zo_42 zkX4_note_0 7 rfl rfl
theorem dX4_note_8 : decode cX4_note 8 = .ok (.iload_n 1, 1) := zq_0 zo_27 zkX4_note_0 8 rfl rfl
theorem dX4_note_9 : decode cX4_note 9 = .ok (.putfield 58, 3) := zq_2 zo_181 zkX4_note_0 9 rfl rfl 0 58 rfl rfl _ rfl
theorem dX4_note_12 : decode cX4_note 12 = .ok (.aload_n 0, 1) := zq_0 zo_42 zkX4_note_0 12 rfl rfl
theorem dX4_note_13 : decode cX4_note 13 = .ok (.iload_n 2, 1) := zq_0 zo_28 zkX4_note_0 13 rfl rfl
theorem dX4_note_14 : decode cX4_note 14 = .ok (.putfield 61, 3) := zq_2 zo_181 zkX4_note_0 14 rfl rfl 0 61 rfl rfl _ rfl
theorem dX4_note_17 : decode cX4_note 17 = .ok (.return_, 1) := zq_0 zo_177 zkX4_note_0 17 rfl rfl
