theorem dX10_isPost_2 : decode cX10_isPost 2 = .ok (.aload_n 0, 1) := zq_0 zo_42 zkX10_isPost_0 2 rfl rfl
theorem dX10_isPost_3 : decode cX10_isPost 3 = .ok (.getfield 248, 3) := zq_2 zo_180 zkX10_isPost_0 3 rfl rfl 0 248 rfl rfl _ rfl
theorem dX10_isPost_6 : decode cX10_isPost 6 = .ok (.invokestatic 103, 3) := zq_2 zo_184 zkX10_isPost_0 6 rfl rfl 0 103 rfl rfl _ rfl
theorem dX10_isPost_9 : decode cX10_isPost 9 = .ok (.ireturn, 1) := zq_0 zo_172 zkX10_isPost_0 9 rfl rfl
theorem zkX10_isRider_0 : zqc cX10_isRider 0 [27, 3, 42, 180, 0, 251, 4, 100, 184, 0, 103, 172] := zq_of 12 (by decide +kernel)
theorem dX10_isRider_0 : decode cX10_isRider 0 = .ok (.iload_n 1, 1) := zq_0 zo_27 zkX10_isRider_0 0 rfl rfl
theorem dX10_isRider_1 : decode cX10_isRider 1 = .ok (.iconst 0, 1) := zq_0 zo_3 zkX10_isRider_0 1 rfl rfl
theorem dX10_isRider_2 : decode cX10_isRider 2 = .ok (.aload_n 0, 1) := zq_0 zo_42 zkX10_isRider_0 2 rfl rfl
theorem dX10_isRider_3 : decode cX10_isRider 3 = .ok (.getfield 251, 3) := zq_2 zo_180 zkX10_isRider_0 3 rfl rfl 0 251 rfl rfl _ rfl
theorem dX10_isRider_6 : decode cX10_isRider 6 = .ok (.iconst 1, 1) := zq_0 zo_4 zkX10_isRider_0 6 rfl rfl
theorem dX10_isRider_7 : decode cX10_isRider 7 = .ok (.isub, 1) := zq_0 zo_100 zkX10_isRider_0 7 rfl rfl
theorem dX10_isRider_8 : decode cX10_isRider 8 = .ok (.invokestatic 103, 3) := zq_2 zo_184 zkX10_isRider_0 8 rfl rfl 0 103 rfl rfl _ rfl
theorem dX10_isRider_11 : decode cX10_isRider 11 = .ok (.ireturn, 1) := zq_0 zo_172 zkX10_isRider_0 11 rfl rfl
theorem zkX10_post_0 : zqc cX10_post 0 [42, 3, 181, 0, 91, 42, 27, 3, 182, 1, 1, 153, 0, 11, 42, 28, 182, 1, 4, 154, 0, 6, 16, 254, 172, 29, 3, 7, 184, 0, 103, 153, 0, 10] := zq_of 34 (by decide +kernel)
theorem dX10_post_0 : decode cX10_post 0 = .ok (.aload_n 0, 1) := zq_0 zo_42 zkX10_post_0 0 rfl rfl
theorem dX10_post_1 : decode cX10_post 1 = .ok (.iconst 0, 1) := zq_0 zo_3 zkX10_post_0 1 rfl rfl
theorem dX10_post_2 : decode cX10_post 2 = .ok (.putfield 91, 3) := zq_2 zo_181 zkX10_post_0 2 rfl rfl 0 91 rfl rfl _ rfl
theorem dX10_post_5 : decode cX10_post 5 = .ok (.aload_n 0, 1) := zq_0 zo_42 zkX10_post_0 5 rfl rfl
theorem dX10_post_6 : decode cX10_post 6 = .ok (.iload_n 1, 1) := zq_0 zo_27 zkX10_post_0 6 rfl rfl
theorem dX10_post_7 : decode cX10_post 7 = .ok (.iconst 0, 1) := zq_0 zo_3 zkX10_post_0 7 rfl rfl
theorem dX10_post_8 : decode cX10_post 8 = .ok (.invokevirtual 257, 3) := zq_2 zo_182 zkX10_post_0 8 rfl rfl 1 1 rfl rfl _ rfl
theorem dX10_post_11 : decode cX10_post 11 = .ok (.ifCond .eq 11, 3) := zq_2s zo_153 zkX10_post_0 11 rfl rfl 0 11 rfl rfl _ (by decide +kernel)
theorem dX10_post_14 : decode cX10_post 14 = .ok (.aload_n 0, 1) := zq_0 zo_42 zkX10_post_0 14 rfl rfl
theorem dX10_post_15 : decode cX10_post 15 = .ok (.iload_n 2, 1) := zq_0 zo_28 zkX10_post_0 15 rfl rfl
theorem dX10_post_16 : decode cX10_post 16 = .ok (.invokevirtual 260, 3) := zq_2 zo_182 zkX10_post_0 16 rfl rfl 1 4 rfl rfl _ rfl
theorem dX10_post_19 : decode cX10_post 19 = .ok (.ifCond .ne 6, 3) := zq_2s zo_154 zkX10_post_0 19 rfl rfl 0 6 rfl rfl _ (by decide +kernel)
theorem dX10_post_22 : decode cX10_post 22 = .ok (.bipush (-2), 2) := zq_1s zo_16 zkX10_post_0 22 rfl rfl 254 rfl _ (by decide +kernel)
theorem dX10_post_24 : decode cX10_post 24 = .ok (.ireturn, 1) := zq_0 zo_172 zkX10_post_0 24 rfl rfl
theorem dX10_post_25 : decode cX10_post 25 = .ok (.iload_n 3, 1) := zq_0 zo_29 zkX10_post_0 25 rfl rfl
theorem dX10_post_26 : decode cX10_post 26 = .ok (.iconst 0, 1) := zq_0 zo_3 zkX10_post_0 26 rfl rfl
theorem dX10_post_27 : decode cX10_post 27 = .ok (.iconst 4, 1) := zq_0 zo_7 zkX10_post_0 27 rfl rfl
theorem dX10_post_28 : decode cX10_post 28 = .ok (.invokestatic 103, 3) := zq_2 zo_184 zkX10_post_0 28 rfl rfl 0 103 rfl rfl _ rfl
theorem dX10_post_31 : decode cX10_post 31 = .ok (.ifCond .eq 10, 3) := zq_2s zo_153 zkX10_post_0 31 rfl rfl 0 10 rfl rfl _ (by decide +kernel)
theorem zkX10_post_32 : zqc cX10_post 32 [0, 10, 42, 28, 29, 182, 0, 242, 172, 29, 8, 160, 0, 24, 28, 42, 180, 0, 248, 160, 0, 7, 2, 167, 0, 37, 42, 180, 0, 50, 28, 46, 167, 0] := zq_of 34 (by decide +kernel)
theorem dX10_post_34 : decode cX10_post 34 = .ok (.aload_n 0, 1) := zq_0 zo_42 zkX10_post_32 2 rfl rfl
theorem dX10_post_35 : decode cX10_post 35 = .ok (.iload_n 2, 1) := zq_0 zo_28 zkX10_post_32 3 rfl rfl
theorem dX10_post_36 : decode cX10_post 36 = .ok (.iload_n 3, 1) := zq_0 zo_29 zkX10_post_32 4 rfl rfl
theorem dX10_post_37 : decode cX10_post 37 = .ok (.invokevirtual 242, 3) := zq_2 zo_182 zkX10_post_32 5 rfl rfl 0 242 rfl rfl _ rfl
theorem dX10_post_40 : decode cX10_post 40 = .ok (.ireturn, 1) := zq_0 zo_172 zkX10_post_32 8 rfl rfl
theorem dX10_post_41 : decode cX10_post 41 = .ok (.iload_n 3, 1) := zq_0 zo_29 zkX10_post_32 9 rfl rfl
theorem dX10_post_42 : decode cX10_post 42 = .ok (.iconst 5, 1) := zq_0 zo_8 zkX10_post_32 10 rfl rfl
theorem dX10_post_43 : decode cX10_post 43 = .ok (.if_icmp .ne 24, 3) := zq_2s zo_160 zkX10_post_32 11 rfl rfl 0 24 rfl rfl _ (by decide +kernel)
theorem dX10_post_46 : decode cX10_post 46 = .ok (.iload_n 2, 1) := zq_0 zo_28 zkX10_post_32 14 rfl rfl
theorem dX10_post_47 : decode cX10_post 47 = .ok (.aload_n 0, 1) := zq_0 zo_42 zkX10_post_32 15 rfl rfl
theorem dX10_post_48 : decode cX10_post 48 = .ok (.getfield 248, 3) := zq_2 zo_180 zkX10_post_32 16 rfl rfl 0 248 rfl rfl _ rfl
theorem dX10_post_51 : decode cX10_post 51 = .ok (.if_icmp .ne 7, 3) := zq_2s zo_160 zkX10_post_32 19 rfl rfl 0 7 rfl rfl _ (by decide +kernel)
theorem dX10_post_54 : decode cX10_post 54 = .ok (.iconst (-1), 1) := zq_0 zo_2 zkX10_post_32 22 rfl rfl
theorem dX10_post_55 : decode cX10_post 55 = .ok (.goto 37, 3) := zq_2s zo_167 zkX10_post_32 23 rfl rfl 0 37 rfl rfl _ (by decide +kernel)
theorem dX10_post_58 : decode cX10_post 58 = .ok (.aload_n 0, 1) := zq_0 zo_42 zkX10_post_32 26 rfl rfl
theorem dX10_post_59 : decode cX10_post 59 = .ok (.getfield 50, 3) := zq_2 zo_180 zkX10_post_32 27 rfl rfl 0 50 rfl rfl _ rfl
theorem dX10_post_62 : decode cX10_post 62 = .ok (.iload_n 2, 1) := zq_0 zo_28 zkX10_post_32 30 rfl rfl
theorem dX10_post_63 : decode cX10_post 63 = .ok (.iaload, 1) := zq_0 zo_46 zkX10_post_32 31 rfl rfl
theorem zkX10_post_64 : zqc cX10_post 64 [167, 0, 28, 29, 16, 10, 16, 19, 184, 0, 103, 153, 0, 15, 42, 28, 29, 16, 10, 100, 182, 0, 254, 167, 0, 5, 16, 254, 172] := zq_of 29 (by decide +kernel)
theorem dX10_post_64 : decode cX10_post 64 = .ok (.goto 28, 3) := zq_2s zo_167 zkX10_post_64 0 rfl rfl 0 28 rfl rfl _ (by decide +kernel)
theorem dX10_post_67 : decode cX10_post 67 = .ok (.iload_n 3, 1) := zq_0 zo_29 zkX10_post_64 3 rfl rfl
theorem dX10_post_68 : decode cX10_post 68 = .ok (.bipush 10, 2) := zq_1s zo_16 zkX10_post_64 4 rfl rfl 10 rfl _ (by decide +kernel)
theorem dX10_post_70 : decode cX10_post 70 = .ok (.bipush 19, 2) := zq_1s zo_16 zkX10_post_64 6 rfl rfl 19 rfl _ (by decide +kernel)
theorem dX10_post_72 : decode cX10_post 72 = .ok (.invokestatic 103, 3) := zq_2 zo_184 zkX10_post_64 8 rfl rfl 0 103 rfl rfl _ rfl
theorem dX10_post_75 : decode cX10_post 75 = .ok (.ifCond .eq 15, 3) := zq_2s zo_153 zkX10_post_64 11 rfl rfl 0 15 rfl rfl _ (by decide +kernel)
theorem dX10_post_78 : decode cX10_post 78 = .ok (.aload_n 0, 1) := zq_0 zo_42 zkX10_post_64 14 rfl rfl
theorem dX10_post_79 : decode cX10_post 79 = .ok (.iload_n 2, 1) := zq_0 zo_28 zkX10_post_64 15 rfl rfl
theorem dX10_post_80 : decode cX10_post 80 = .ok (.iload_n 3, 1) := zq_0 zo_29 zkX10_post_64 16 rfl rfl
theorem dX10_post_81 : decode cX10_post 81 = .ok (.bipush 10, 2) := zq_1s zo_16 zkX10_post_64 17 rfl rfl 10 rfl _ (by decide +kernel)
theorem dX10_post_83 : decode cX10_post 83 = .ok (.isub, 1) := zq_0 zo_100 zkX10_post_64 19 rfl rfl
theorem dX10_post_84 : decode cX10_post 84 = .ok (.invokevirtual 254, 3) := zq_2 zo_182 zkX10_post_64 20 rfl rfl 0 254 rfl rfl _ rfl
theorem dX10_post_87 : decode cX10_post 87 = .ok (.goto 5, 3) := zq_2s zo_167 zkX10_post_64 23 rfl rfl 0 5 rfl rfl _ (by decide +kernel)
theorem dX10_post_90 : decode cX10_post 90 = .ok (.bipush (-2), 2) := zq_1s zo_16 zkX10_post_64 26 rfl rfl 254 rfl _ (by decide +kernel)
theorem dX10_post_92 : decode cX10_post 92 = .ok (.ireturn, 1) := zq_0 zo_172 zkX10_post_64 28 rfl rfl
theorem zkX10_rider_0 : zqc cX10_rider 0 [42, 3, 181, 0, 91, 42, 27, 3, 182, 1, 1, 153, 0, 29, 42, 28, 182, 1, 7, 153, 0, 21, 29, 3, 8, 184, 0, 103, 153, 0, 12, 42, 28, 29] := zq_of 34 (by decide +kernel)
theorem dX10_rider_0 : decode cX10_rider 0 = .ok (.aload_n 0, 1) := zq_0 zo_42 zkX10_rider_0 0 rfl rfl
theorem dX10_rider_1 : decode cX10_rider 1 = .ok (.iconst 0, 1) := zq_0 zo_3 zkX10_rider_0 1 rfl rfl
theorem dX10_rider_2 : decode cX10_rider 2 = .ok (.putfield 91, 3) := zq_2 zo_181 zkX10_rider_0 2 rfl rfl 0 91 rfl rfl _ rfl
theorem dX10_rider_5 : decode cX10_rider 5 = .ok (.aload_n 0, 1) := zq_0 zo_42 zkX10_rider_0 5 rfl rfl
theorem dX10_rider_6 : decode cX10_rider 6 = .ok (.iload_n 1, 1) := zq_0 zo_27 zkX10_rider_0 6 rfl rfl
theorem dX10_rider_7 : decode cX10_rider 7 = .ok (.iconst 0, 1) := zq_0 zo_3 zkX10_rider_0 7 rfl rfl
theorem dX10_rider_8 : decode cX10_rider 8 = .ok (.invokevirtual 257, 3) := zq_2 zo_182 zkX10_rider_0 8 rfl rfl 1 1 rfl rfl _ rfl
theorem dX10_rider_11 : decode cX10_rider 11 = .ok (.ifCond .eq 29, 3) := zq_2s zo_153 zkX10_rider_0 11 rfl rfl 0 29 rfl rfl _ (by decide +kernel)
theorem dX10_rider_14 : decode cX10_rider 14 = .ok (.aload_n 0, 1) := zq_0 zo_42 zkX10_rider_0 14 rfl rfl
theorem dX10_rider_15 : decode cX10_rider 15 = .ok (.iload_n 2, 1) := zq_0 zo_28 zkX10_rider_0 15 rfl rfl
theorem dX10_rider_16 : decode cX10_rider 16 = .ok (.invokevirtual 263, 3) := zq_2 zo_182 zkX10_rider_0 16 rfl rfl 1 7 rfl rfl _ rfl
theorem dX10_rider_19 : decode cX10_rider 19 = .ok (.ifCond .eq 21, 3) := zq_2s zo_153 zkX10_rider_0 19 rfl rfl 0 21 rfl rfl _ (by decide +kernel)
theorem dX10_rider_22 : decode cX10_rider 22 = .ok (.iload_n 3, 1) := zq_0 zo_29 zkX10_rider_0 22 rfl rfl
theorem dX10_rider_23 : decode cX10_rider 23 = .ok (.iconst 0, 1) := zq_0 zo_3 zkX10_rider_0 23 rfl rfl
theorem dX10_rider_24 : decode cX10_rider 24 = .ok (.iconst 5, 1) := zq_0 zo_8 zkX10_rider_0 24 rfl rfl
theorem dX10_rider_25 : decode cX10_rider 25 = .ok (.invokestatic 103, 3) := zq_2 zo_184 zkX10_rider_0 25 rfl rfl 0 103 rfl rfl _ rfl
theorem dX10_rider_28 : decode cX10_rider 28 = .ok (.ifCond .eq 12, 3) := zq_2s zo_153 zkX10_rider_0 28 rfl rfl 0 12 rfl rfl _ (by decide +kernel)
theorem dX10_rider_31 : decode cX10_rider 31 = .ok (.aload_n 0, 1) := zq_0 zo_42 zkX10_rider_0 31 rfl rfl
theorem zkX10_rider_32 : zqc cX10_rider 32 [28, 29, 182, 1, 10, 167, 0, 4, 2, 172] := zq_of 10 (by decide +kernel)
theorem dX10_rider_32 : decode cX10_rider 32 = .ok (.iload_n 2, 1) := zq_0 zo_28 zkX10_rider_32 0 rfl rfl
theorem dX10_rider_33 : decode cX10_rider 33 = .ok (.iload_n 3, 1) := zq_0 zo_29 zkX10_rider_32 1 rfl rfl
theorem dX10_rider_34 : decode cX10_rider 34 = .ok (.invokevirtual 266, 3) := zq_2 zo_182 zkX10_rider_32 2 rfl rfl 1 10 rfl rfl _ rfl
theorem dX10_rider_37 : decode cX10_rider 37 = .ok (.goto 4, 3) := zq_2s zo_167 zkX10_rider_32 5 rfl rfl 0 4 rfl rfl _ (by decide +kernel)
theorem dX10_rider_40 : decode cX10_rider 40 = .ok (.iconst (-1), 1) := zq_0 zo_2 zkX10_rider_32 8 rfl rfl
theorem dX10_rider_41 : decode cX10_rider 41 = .ok (.ireturn, 1) := zq_0 zo_172 zkX10_rider_32 9 rfl rfl
theorem zkX10_draw_0 : zqc cX10_draw 0 [42, 42, 180, 1, 13, 19, 1, 16, 104, 17, 48, 57, 96, 181, 1, 13, 42, 180, 1, 13, 16, 16, 124, 27, 112, 172] := zq_of 26 (by decide +kernel)
theorem dX10_draw_0 : decode cX10_draw 0 = .ok (.aload_n 0, 1) := zq_0 zo_42 zkX10_draw_0 0 rfl rfl
theorem dX10_draw_1 : decode cX10_draw 1 = .ok (.aload_n 0, 1) := zq_0 zo_42 zkX10_draw_0 1 rfl rfl
theorem dX10_draw_2 : decode cX10_draw 2 = .ok (.getfield 269, 3) := zq_2 zo_180 zkX10_draw_0 2 rfl rfl 1 13 rfl rfl _ rfl
theorem dX10_draw_5 : decode cX10_draw 5 = .ok (.ldc_w 272, 3) := zq_2 zo_19 zkX10_draw_0 5 rfl rfl 1 16 rfl rfl _ rfl
theorem dX10_draw_8 : decode cX10_draw 8 = .ok (.imul, 1) := zq_0 zo_104 zkX10_draw_0 8 rfl rfl
theorem dX10_draw_9 : decode cX10_draw 9 = .ok (.sipush 12345, 3) := zq_2s zo_17 zkX10_draw_0 9 rfl rfl 48 57 rfl rfl _ (by decide +kernel)
theorem dX10_draw_12 : decode cX10_draw 12 = .ok (.iadd, 1) := zq_0 zo_96 zkX10_draw_0 12 rfl rfl
theorem dX10_draw_13 : decode cX10_draw 13 = .ok (.putfield 269, 3) := zq_2 zo_181 zkX10_draw_0 13 rfl rfl 1 13 rfl rfl _ rfl
theorem dX10_draw_16 : decode cX10_draw 16 = .ok (.aload_n 0, 1) := zq_0 zo_42 zkX10_draw_0 16 rfl rfl
theorem dX10_draw_17 : decode cX10_draw 17 = .ok (.getfield 269, 3) := zq_2 zo_180 zkX10_draw_0 17 rfl rfl 1 13 rfl rfl _ rfl
theorem dX10_draw_20 : decode cX10_draw 20 = .ok (.bipush 16, 2) := zq_1s zo_16 zkX10_draw_0 20 rfl rfl 16 rfl _ (by decide +kernel)
theorem dX10_draw_22 : decode cX10_draw 22 = .ok (.iushr, 1) := zq_0 zo_124 zkX10_draw_0 22 rfl rfl
theorem dX10_draw_23 : decode cX10_draw 23 = .ok (.iload_n 1, 1) := zq_0 zo_27 zkX10_draw_0 23 rfl rfl
theorem dX10_draw_24 : decode cX10_draw 24 = .ok (.irem, 1) := zq_0 zo_112 zkX10_draw_0 24 rfl rfl
theorem dX10_draw_25 : decode cX10_draw 25 = .ok (.ireturn, 1) := zq_0 zo_172 zkX10_draw_0 25 rfl rfl
theorem zkX10_isOn_0 : zqc cX10_isOn 0 [42, 27, 3, 182, 1, 10, 28, 163, 0, 17, 28, 42, 27, 4, 182, 1, 10, 162, 0, 7, 4, 167, 0, 4, 3, 172] := zq_of 26 (by decide +kernel)
theorem dX10_isOn_0 : decode cX10_isOn 0 = .ok (.aload_n 0, 1) := zq_0 zo_42 zkX10_isOn_0 0 rfl rfl
theorem dX10_isOn_1 : decode cX10_isOn 1 = .ok (.iload_n 1, 1) := zq_0 zo_27 zkX10_isOn_0 1 rfl rfl
theorem dX10_isOn_2 : decode cX10_isOn 2 = .ok (.iconst 0, 1) := zq_0 zo_3 zkX10_isOn_0 2 rfl rfl
theorem dX10_isOn_3 : decode cX10_isOn 3 = .ok (.invokevirtual 266, 3) := zq_2 zo_182 zkX10_isOn_0 3 rfl rfl 1 10 rfl rfl _ rfl
theorem dX10_isOn_6 : decode cX10_isOn 6 = .ok (.iload_n 2, 1) := zq_0 zo_28 zkX10_isOn_0 6 rfl rfl
theorem dX10_isOn_7 : decode cX10_isOn 7 = .ok (.if_icmp .gt 17, 3) := zq_2s zo_163 zkX10_isOn_0 7 rfl rfl 0 17 rfl rfl _ (by decide +kernel)
theorem dX10_isOn_10 : decode cX10_isOn 10 = .ok (.iload_n 2, 1) := zq_0 zo_28 zkX10_isOn_0 10 rfl rfl
theorem dX10_isOn_11 : decode cX10_isOn 11 = .ok (.aload_n 0, 1) := zq_0 zo_42 zkX10_isOn_0 11 rfl rfl
theorem dX10_isOn_12 : decode cX10_isOn 12 = .ok (.iload_n 1, 1) := zq_0 zo_27 zkX10_isOn_0 12 rfl rfl
theorem dX10_isOn_13 : decode cX10_isOn 13 = .ok (.iconst 1, 1) := zq_0 zo_4 zkX10_isOn_0 13 rfl rfl
theorem dX10_isOn_14 : decode cX10_isOn 14 = .ok (.invokevirtual 266, 3) := zq_2 zo_182 zkX10_isOn_0 14 rfl rfl 1 10 rfl rfl _ rfl
theorem dX10_isOn_17 : decode cX10_isOn 17 = .ok (.if_icmp .ge 7, 3) := zq_2s zo_162 zkX10_isOn_0 17 rfl rfl 0 7 rfl rfl _ (by decide +kernel)
theorem dX10_isOn_20 : decode cX10_isOn 20 = .ok (.iconst 1, 1) := zq_0 zo_4 zkX10_isOn_0 20 rfl rfl
theorem dX10_isOn_21 : decode cX10_isOn 21 = .ok (.goto 4, 3) := zq_2s zo_167 zkX10_isOn_0 21 rfl rfl 0 4 rfl rfl _ (by decide +kernel)
theorem dX10_isOn_24 : decode cX10_isOn 24 = .ok (.iconst 0, 1) := zq_0 zo_3 zkX10_isOn_0 24 rfl rfl
theorem dX10_isOn_25 : decode cX10_isOn 25 = .ok (.ireturn, 1) := zq_0 zo_172 zkX10_isOn_0 25 rfl rfl
theorem zkX10_wants_0 : zqc cX10_wants 0 [42, 27, 28, 182, 1, 17, 153, 0, 66, 42, 180, 0, 53, 28, 46, 158, 0, 57, 42, 27, 6, 182, 1, 10, 42, 180, 0, 53, 28, 46, 163, 0, 42, 42] := zq_of 34 (by decide +kernel)
theorem dX10_wants_0 : decode cX10_wants 0 = .ok (.aload_n 0, 1) := zq_0 zo_42 zkX10_wants_0 0 rfl rfl
theorem dX10_wants_1 : decode cX10_wants 1 = .ok (.iload_n 1, 1) := zq_0 zo_27 zkX10_wants_0 1 rfl rfl
theorem dX10_wants_2 : decode cX10_wants 2 = .ok (.iload_n 2, 1) := zq_0 zo_28 zkX10_wants_0 2 rfl rfl
theorem dX10_wants_3 : decode cX10_wants 3 = .ok (.invokevirtual 273, 3) := zq_2 zo_182 zkX10_wants_0 3 rfl rfl 1 17 rfl rfl _ rfl
theorem dX10_wants_6 : decode cX10_wants 6 = .ok (.ifCond .eq 66, 3) := zq_2s zo_153 zkX10_wants_0 6 rfl rfl 0 66 rfl rfl _ (by decide +kernel)
theorem dX10_wants_9 : decode cX10_wants 9 = .ok (.aload_n 0, 1) := zq_0 zo_42 zkX10_wants_0 9 rfl rfl
theorem dX10_wants_10 : decode cX10_wants 10 = .ok (.getfield 53, 3) := zq_2 zo_180 zkX10_wants_0 10 rfl rfl 0 53 rfl rfl _ rfl
theorem dX10_wants_13 : decode cX10_wants 13 = .ok (.iload_n 2, 1) := zq_0 zo_28 zkX10_wants_0 13 rfl rfl
theorem dX10_wants_14 : decode cX10_wants 14 = .ok (.iaload, 1) := zq_0 zo_46 zkX10_wants_0 14 rfl rfl
theorem dX10_wants_15 : decode cX10_wants 15 = .ok (.ifCond .le 57, 3) := zq_2s zo_158 zkX10_wants_0 15 rfl rfl 0 57 rfl rfl _ (by decide +kernel)
theorem dX10_wants_18 : decode cX10_wants 18 = .ok (.aload_n 0, 1) := zq_0 zo_42 zkX10_wants_0 18 rfl rfl
theorem dX10_wants_19 : decode cX10_wants 19 = .ok (.iload_n 1, 1) := zq_0 zo_27 zkX10_wants_0 19 rfl rfl
theorem dX10_wants_20 : decode cX10_wants 20 = .ok (.iconst 3, 1) := zq_0 zo_6 zkX10_wants_0 20 rfl rfl
theorem dX10_wants_21 : decode cX10_wants 21 = .ok (.invokevirtual 266, 3) := zq_2 zo_182 zkX10_wants_0 21 rfl rfl 1 10 rfl rfl _ rfl
theorem dX10_wants_24 : decode cX10_wants 24 = .ok (.aload_n 0, 1) := zq_0 zo_42 zkX10_wants_0 24 rfl rfl
theorem dX10_wants_25 : decode cX10_wants 25 = .ok (.getfield 53, 3) := zq_2 zo_180 zkX10_wants_0 25 rfl rfl 0 53 rfl rfl _ rfl
theorem dX10_wants_28 : decode cX10_wants 28 = .ok (.iload_n 2, 1) := zq_0 zo_28 zkX10_wants_0 28 rfl rfl
theorem dX10_wants_29 : decode cX10_wants 29 = .ok (.iaload, 1) := zq_0 zo_46 zkX10_wants_0 29 rfl rfl
theorem dX10_wants_30 : decode cX10_wants 30 = .ok (.if_icmp .gt 42, 3) := zq_2s zo_163 zkX10_wants_0 30 rfl rfl 0 42 rfl rfl _ (by decide +kernel)
theorem zkX10_wants_32 : zqc cX10_wants 32 [42, 42, 180, 0, 62, 27, 46, 42, 27, 5, 182, 1, 10, 162, 0, 27, 42, 27, 7, 182, 1, 10, 42, 180, 1, 20, 42, 180, 0, 50, 28, 46, 96, 161] := zq_of 34 (by decide +kernel)
theorem dX10_wants_33 : decode cX10_wants 33 = .ok (.aload_n 0, 1) := zq_0 zo_42 zkX10_wants_32 1 rfl rfl
theorem dX10_wants_34 : decode cX10_wants 34 = .ok (.getfield 62, 3) := zq_2 zo_180 zkX10_wants_32 2 rfl rfl 0 62 rfl rfl _ rfl
theorem dX10_wants_37 : decode cX10_wants 37 = .ok (.iload_n 1, 1) := zq_0 zo_27 zkX10_wants_32 5 rfl rfl
theorem dX10_wants_38 : decode cX10_wants 38 = .ok (.iaload, 1) := zq_0 zo_46 zkX10_wants_32 6 rfl rfl
theorem dX10_wants_39 : decode cX10_wants 39 = .ok (.aload_n 0, 1) := zq_0 zo_42 zkX10_wants_32 7 rfl rfl
theorem dX10_wants_40 : decode cX10_wants 40 = .ok (.iload_n 1, 1) := zq_0 zo_27 zkX10_wants_32 8 rfl rfl
theorem dX10_wants_41 : decode cX10_wants 41 = .ok (.iconst 2, 1) := zq_0 zo_5 zkX10_wants_32 9 rfl rfl
theorem dX10_wants_42 : decode cX10_wants 42 = .ok (.invokevirtual 266, 3) := zq_2 zo_182 zkX10_wants_32 10 rfl rfl 1 10 rfl rfl _ rfl
theorem dX10_wants_45 : decode cX10_wants 45 = .ok (.if_icmp .ge 27, 3) := zq_2s zo_162 zkX10_wants_32 13 rfl rfl 0 27 rfl rfl _ (by decide +kernel)
theorem dX10_wants_48 : decode cX10_wants 48 = .ok (.aload_n 0, 1) := zq_0 zo_42 zkX10_wants_32 16 rfl rfl
theorem dX10_wants_49 : decode cX10_wants 49 = .ok (.iload_n 1, 1) := zq_0 zo_27 zkX10_wants_32 17 rfl rfl
theorem dX10_wants_50 : decode cX10_wants 50 = .ok (.iconst 4, 1) := zq_0 zo_7 zkX10_wants_32 18 rfl rfl
theorem dX10_wants_51 : decode cX10_wants 51 = .ok (.invokevirtual 266, 3) := zq_2 zo_182 zkX10_wants_32 19 rfl rfl 1 10 rfl rfl _ rfl
theorem dX10_wants_54 : decode cX10_wants 54 = .ok (.aload_n 0, 1) := zq_0 zo_42 zkX10_wants_32 22 rfl rfl
theorem dX10_wants_55 : decode cX10_wants 55 = .ok (.getfield 276, 3) := zq_2 zo_180 zkX10_wants_32 23 rfl rfl 1 20 rfl rfl _ rfl
theorem dX10_wants_58 : decode cX10_wants 58 = .ok (.aload_n 0, 1) := zq_0 zo_42 zkX10_wants_32 26 rfl rfl
theorem dX10_wants_59 : decode cX10_wants 59 = .ok (.getfield 50, 3) := zq_2 zo_180 zkX10_wants_32 27 rfl rfl 0 50 rfl rfl _ rfl
theorem dX10_wants_62 : decode cX10_wants 62 = .ok (.iload_n 2, 1) := zq_0 zo_28 zkX10_wants_32 30 rfl rfl
theorem dX10_wants_63 : decode cX10_wants 63 = .ok (.iaload, 1) := zq_0 zo_46 zkX10_wants_32 31 rfl rfl
theorem zkX10_wants_64 : zqc cX10_wants 64 [96, 161, 0, 7, 4, 167, 0, 4, 3, 172] := zq_of 10 (by decide +kernel)
theorem dX10_wants_64 : decode cX10_wants 64 = .ok (.iadd, 1) := zq_0 zo_96 zkX10_wants_64 0 rfl rfl
theorem dX10_wants_65 : decode cX10_wants 65 = .ok (.if_icmp .lt 7, 3) := zq_2s zo_161 zkX10_wants_64 1 rfl rfl 0 7 rfl rfl _ (by decide +kernel)
theorem dX10_wants_68 : decode cX10_wants 68 = .ok (.iconst 1, 1) := zq_0 zo_4 zkX10_wants_64 4 rfl rfl
theorem dX10_wants_69 : decode cX10_wants 69 = .ok (.goto 4, 3) := zq_2s zo_167 zkX10_wants_64 5 rfl rfl 0 4 rfl rfl _ (by decide +kernel)
theorem dX10_wants_72 : decode cX10_wants 72 = .ok (.iconst 0, 1) := zq_0 zo_3 zkX10_wants_64 8 rfl rfl
theorem dX10_wants_73 : decode cX10_wants 73 = .ok (.ireturn, 1) := zq_0 zo_172 zkX10_wants_64 9 rfl rfl
theorem zkX10_pullerAt_0 : zqc cX10_pullerAt 0 [2, 54, 4, 2, 54, 5, 3, 54, 6, 3, 54, 7, 21, 7, 42, 180, 0, 251, 162, 0, 98, 28, 2, 159, 0, 93, 29, 21, 7, 184, 0, 95, 153, 0] := zq_of 34 (by decide +kernel)
theorem dX10_pullerAt_0 : decode cX10_pullerAt 0 = .ok (.iconst (-1), 1) := zq_0 zo_2 zkX10_pullerAt_0 0 rfl rfl
theorem dX10_pullerAt_1 : decode cX10_pullerAt 1 = .ok (.istore 4, 2) := zq_1 zo_54 zkX10_pullerAt_0 1 rfl rfl 4 rfl
theorem dX10_pullerAt_3 : decode cX10_pullerAt 3 = .ok (.iconst (-1), 1) := zq_0 zo_2 zkX10_pullerAt_0 3 rfl rfl
theorem dX10_pullerAt_4 : decode cX10_pullerAt 4 = .ok (.istore 5, 2) := zq_1 zo_54 zkX10_pullerAt_0 4 rfl rfl 5 rfl
theorem dX10_pullerAt_6 : decode cX10_pullerAt 6 = .ok (.iconst 0, 1) := zq_0 zo_3 zkX10_pullerAt_0 6 rfl rfl
theorem dX10_pullerAt_7 : decode cX10_pullerAt 7 = .ok (.istore 6, 2) := zq_1 zo_54 zkX10_pullerAt_0 7 rfl rfl 6 rfl
theorem dX10_pullerAt_9 : decode cX10_pullerAt 9 = .ok (.iconst 0, 1) := zq_0 zo_3 zkX10_pullerAt_0 9 rfl rfl
theorem dX10_pullerAt_10 : decode cX10_pullerAt 10 = .ok (.istore 7, 2) := zq_1 zo_54 zkX10_pullerAt_0 10 rfl rfl 7 rfl
theorem dX10_pullerAt_12 : decode cX10_pullerAt 12 = .ok (.iload 7, 2) := zq_1 zo_21 zkX10_pullerAt_0 12 rfl rfl 7 rfl
theorem dX10_pullerAt_14 : decode cX10_pullerAt 14 = .ok (.aload_n 0, 1) := zq_0 zo_42 zkX10_pullerAt_0 14 rfl rfl
theorem dX10_pullerAt_15 : decode cX10_pullerAt 15 = .ok (.getfield 251, 3) := zq_2 zo_180 zkX10_pullerAt_0 15 rfl rfl 0 251 rfl rfl _ rfl
theorem dX10_pullerAt_18 : decode cX10_pullerAt 18 = .ok (.if_icmp .ge 98, 3) := zq_2s zo_162 zkX10_pullerAt_0 18 rfl rfl 0 98 rfl rfl _ (by decide +kernel)
theorem dX10_pullerAt_21 : decode cX10_pullerAt 21 = .ok (.iload_n 2, 1) := zq_0 zo_28 zkX10_pullerAt_0 21 rfl rfl
theorem dX10_pullerAt_22 : decode cX10_pullerAt 22 = .ok (.iconst (-1), 1) := zq_0 zo_2 zkX10_pullerAt_0 22 rfl rfl
theorem dX10_pullerAt_23 : decode cX10_pullerAt 23 = .ok (.if_icmp .eq 93, 3) := zq_2s zo_159 zkX10_pullerAt_0 23 rfl rfl 0 93 rfl rfl _ (by decide +kernel)
theorem dX10_pullerAt_26 : decode cX10_pullerAt 26 = .ok (.iload_n 3, 1) := zq_0 zo_29 zkX10_pullerAt_0 26 rfl rfl
theorem dX10_pullerAt_27 : decode cX10_pullerAt 27 = .ok (.iload 7, 2) := zq_1 zo_21 zkX10_pullerAt_0 27 rfl rfl 7 rfl
theorem dX10_pullerAt_29 : decode cX10_pullerAt 29 = .ok (.invokestatic 95, 3) := zq_2 zo_184 zkX10_pullerAt_0 29 rfl rfl 0 95 rfl rfl _ rfl
theorem zkX10_pullerAt_32 : zqc cX10_pullerAt 32 [153, 0, 78, 42, 21, 7, 27, 182, 1, 23, 153, 0, 68, 28, 4, 160, 0, 13, 42, 180, 0, 71, 21, 7, 51, 154, 0, 53, 21, 4, 2, 160, 0, 8] := zq_of 34 (by decide +kernel)
theorem dX10_pullerAt_32 : decode cX10_pullerAt 32 = .ok (.ifCond .eq 78, 3) := zq_2s zo_153 zkX10_pullerAt_32 0 rfl rfl 0 78 rfl rfl _ (by decide +kernel)
theorem dX10_pullerAt_35 : decode cX10_pullerAt 35 = .ok (.aload_n 0, 1) := zq_0 zo_42 zkX10_pullerAt_32 3 rfl rfl
theorem dX10_pullerAt_36 : decode cX10_pullerAt 36 = .ok (.iload 7, 2) := zq_1 zo_21 zkX10_pullerAt_32 4 rfl rfl 7 rfl
theorem dX10_pullerAt_38 : decode cX10_pullerAt 38 = .ok (.iload_n 1, 1) := zq_0 zo_27 zkX10_pullerAt_32 6 rfl rfl
theorem dX10_pullerAt_39 : decode cX10_pullerAt 39 = .ok (.invokevirtual 279, 3) := zq_2 zo_182 zkX10_pullerAt_32 7 rfl rfl 1 23 rfl rfl _ rfl
theorem dX10_pullerAt_42 : decode cX10_pullerAt 42 = .ok (.ifCond .eq 68, 3) := zq_2s zo_153 zkX10_pullerAt_32 10 rfl rfl 0 68 rfl rfl _ (by decide +kernel)
theorem dX10_pullerAt_45 : decode cX10_pullerAt 45 = .ok (.iload_n 2, 1) := zq_0 zo_28 zkX10_pullerAt_32 13 rfl rfl
theorem dX10_pullerAt_46 : decode cX10_pullerAt 46 = .ok (.iconst 1, 1) := zq_0 zo_4 zkX10_pullerAt_32 14 rfl rfl
theorem dX10_pullerAt_47 : decode cX10_pullerAt 47 = .ok (.if_icmp .ne 13, 3) := zq_2s zo_160 zkX10_pullerAt_32 15 rfl rfl 0 13 rfl rfl _ (by decide +kernel)
theorem dX10_pullerAt_50 : decode cX10_pullerAt 50 = .ok (.aload_n 0, 1) := zq_0 zo_42 zkX10_pullerAt_32 18 rfl rfl
theorem dX10_pullerAt_51 : decode cX10_pullerAt 51 = .ok (.getfield 71, 3) := zq_2 zo_180 zkX10_pullerAt_32 19 rfl rfl 0 71 rfl rfl _ rfl
theorem dX10_pullerAt_54 : decode cX10_pullerAt 54 = .ok (.iload 7, 2) := zq_1 zo_21 zkX10_pullerAt_32 22 rfl rfl 7 rfl
theorem dX10_pullerAt_56 : decode cX10_pullerAt 56 = .ok (.baload, 1) := zq_0 zo_51 zkX10_pullerAt_32 24 rfl rfl
theorem dX10_pullerAt_57 : decode cX10_pullerAt 57 = .ok (.ifCond .ne 53, 3) := zq_2s zo_154 zkX10_pullerAt_32 25 rfl rfl 0 53 rfl rfl _ (by decide +kernel)
theorem dX10_pullerAt_60 : decode cX10_pullerAt 60 = .ok (.iload 4, 2) := zq_1 zo_21 zkX10_pullerAt_32 28 rfl rfl 4 rfl
theorem dX10_pullerAt_62 : decode cX10_pullerAt 62 = .ok (.iconst (-1), 1) := zq_0 zo_2 zkX10_pullerAt_32 30 rfl rfl
theorem dX10_pullerAt_63 : decode cX10_pullerAt 63 = .ok (.if_icmp .ne 8, 3) := zq_2s zo_160 zkX10_pullerAt_32 31 rfl rfl 0 8 rfl rfl _ (by decide +kernel)
theorem zkX10_pullerAt_64 : zqc cX10_pullerAt 64 [0, 8, 21, 7, 167, 0, 5, 21, 4, 54, 4, 21, 5, 2, 159, 0, 20, 42, 21, 7, 8, 182, 1, 10, 42, 21, 5, 8, 182, 1, 10, 164, 0, 8] := zq_of 34 (by decide +kernel)
theorem dX10_pullerAt_66 : decode cX10_pullerAt 66 = .ok (.iload 7, 2) := zq_1 zo_21 zkX10_pullerAt_64 2 rfl rfl 7 rfl
theorem dX10_pullerAt_68 : decode cX10_pullerAt 68 = .ok (.goto 5, 3) := zq_2s zo_167 zkX10_pullerAt_64 4 rfl rfl 0 5 rfl rfl _ (by decide +kernel)
theorem dX10_pullerAt_71 : decode cX10_pullerAt 71 = .ok (.iload 4, 2) := zq_1 zo_21 zkX10_pullerAt_64 7 rfl rfl 4 rfl
theorem dX10_pullerAt_73 : decode cX10_pullerAt 73 = .ok (.istore 4, 2) := zq_1 zo_54 zkX10_pullerAt_64 9 rfl rfl 4 rfl
theorem dX10_pullerAt_75 : decode cX10_pullerAt 75 = .ok (.iload 5, 2) := zq_1 zo_21 zkX10_pullerAt_64 11 rfl rfl 5 rfl
theorem dX10_pullerAt_77 : decode cX10_pullerAt 77 = .ok (.iconst (-1), 1) := zq_0 zo_2 zkX10_pullerAt_64 13 rfl rfl
theorem dX10_pullerAt_78 : decode cX10_pullerAt 78 = .ok (.if_icmp .eq 20, 3) := zq_2s zo_159 zkX10_pullerAt_64 14 rfl rfl 0 20 rfl rfl _ (by decide +kernel)
theorem dX10_pullerAt_81 : decode cX10_pullerAt 81 = .ok (.aload_n 0, 1) := zq_0 zo_42 zkX10_pullerAt_64 17 rfl rfl
theorem dX10_pullerAt_82 : decode cX10_pullerAt 82 = .ok (.iload 7, 2) := zq_1 zo_21 zkX10_pullerAt_64 18 rfl rfl 7 rfl
theorem dX10_pullerAt_84 : decode cX10_pullerAt 84 = .ok (.iconst 5, 1) := zq_0 zo_8 zkX10_pullerAt_64 20 rfl rfl
theorem dX10_pullerAt_85 : decode cX10_pullerAt 85 = .ok (.invokevirtual 266, 3) := zq_2 zo_182 zkX10_pullerAt_64 21 rfl rfl 1 10 rfl rfl _ rfl
theorem dX10_pullerAt_88 : decode cX10_pullerAt 88 = .ok (.aload_n 0, 1) := zq_0 zo_42 zkX10_pullerAt_64 24 rfl rfl
theorem dX10_pullerAt_89 : decode cX10_pullerAt 89 = .ok (.iload 5, 2) := zq_1 zo_21 zkX10_pullerAt_64 25 rfl rfl 5 rfl
theorem dX10_pullerAt_91 : decode cX10_pullerAt 91 = .ok (.iconst 5, 1) := zq_0 zo_8 zkX10_pullerAt_64 27 rfl rfl
theorem dX10_pullerAt_92 : decode cX10_pullerAt 92 = .ok (.invokevirtual 266, 3) := zq_2 zo_182 zkX10_pullerAt_64 28 rfl rfl 1 10 rfl rfl _ rfl
theorem dX10_pullerAt_95 : decode cX10_pullerAt 95 = .ok (.if_icmp .le 8, 3) := zq_2s zo_164 zkX10_pullerAt_64 31 rfl rfl 0 8 rfl rfl _ (by decide +kernel)
theorem zkX10_pullerAt_96 : zqc cX10_pullerAt 96 [0, 8, 21, 7, 167, 0, 5, 21, 5, 54, 5, 132, 6, 1, 132, 7, 1, 167, 255, 155, 28, 5, 160, 0, 8, 21, 6, 154, 0, 16, 28, 6, 160, 0] := zq_of 34 (by decide +kernel)
theorem dX10_pullerAt_98 : decode cX10_pullerAt 98 = .ok (.iload 7, 2) := zq_1 zo_21 zkX10_pullerAt_96 2 rfl rfl 7 rfl
theorem dX10_pullerAt_100 : decode cX10_pullerAt 100 = .ok (.goto 5, 3) := zq_2s zo_167 zkX10_pullerAt_96 4 rfl rfl 0 5 rfl rfl _ (by decide +kernel)
theorem dX10_pullerAt_103 : decode cX10_pullerAt 103 = .ok (.iload 5, 2) := zq_1 zo_21 zkX10_pullerAt_96 7 rfl rfl 5 rfl
theorem dX10_pullerAt_105 : decode cX10_pullerAt 105 = .ok (.istore 5, 2) := zq_1 zo_54 zkX10_pullerAt_96 9 rfl rfl 5 rfl
theorem dX10_pullerAt_107 : decode cX10_pullerAt 107 = .ok (.iinc 6 1, 3) := zq_ii zo_132 zkX10_pullerAt_96 11 rfl rfl 6 1 rfl rfl _ (by decide +kernel)
theorem dX10_pullerAt_110 : decode cX10_pullerAt 110 = .ok (.iinc 7 1, 3) := zq_ii zo_132 zkX10_pullerAt_96 14 rfl rfl 7 1 rfl rfl _ (by decide +kernel)
theorem dX10_pullerAt_113 : decode cX10_pullerAt 113 = .ok (.goto (-101), 3) := zq_2s zo_167 zkX10_pullerAt_96 17 rfl rfl 255 155 rfl rfl _ (by decide +kernel)
theorem dX10_pullerAt_116 : decode cX10_pullerAt 116 = .ok (.iload_n 2, 1) := zq_0 zo_28 zkX10_pullerAt_96 20 rfl rfl
theorem dX10_pullerAt_117 : decode cX10_pullerAt 117 = .ok (.iconst 2, 1) := zq_0 zo_5 zkX10_pullerAt_96 21 rfl rfl
theorem dX10_pullerAt_118 : decode cX10_pullerAt 118 = .ok (.if_icmp .ne 8, 3) := zq_2s zo_160 zkX10_pullerAt_96 22 rfl rfl 0 8 rfl rfl _ (by decide +kernel)
theorem dX10_pullerAt_121 : decode cX10_pullerAt 121 = .ok (.iload 6, 2) := zq_1 zo_21 zkX10_pullerAt_96 25 rfl rfl 6 rfl
theorem dX10_pullerAt_123 : decode cX10_pullerAt 123 = .ok (.ifCond .ne 16, 3) := zq_2s zo_154 zkX10_pullerAt_96 27 rfl rfl 0 16 rfl rfl _ (by decide +kernel)
theorem dX10_pullerAt_126 : decode cX10_pullerAt 126 = .ok (.iload_n 2, 1) := zq_0 zo_28 zkX10_pullerAt_96 30 rfl rfl
theorem dX10_pullerAt_127 : decode cX10_pullerAt 127 = .ok (.iconst 3, 1) := zq_0 zo_6 zkX10_pullerAt_96 31 rfl rfl
theorem zkX10_pullerAt_128 : zqc cX10_pullerAt 128 [160, 0, 8, 21, 5, 167, 0, 5, 21, 4, 172, 42, 21, 6, 182, 1, 26, 54, 7, 3, 54, 8, 21, 8, 42, 180, 0, 251, 162, 0, 39, 29, 21, 8] := zq_of 34 (by decide +kernel)
theorem dX10_pullerAt_128 : decode cX10_pullerAt 128 = .ok (.if_icmp .ne 8, 3) := zq_2s zo_160 zkX10_pullerAt_128 0 rfl rfl 0 8 rfl rfl _ (by decide +kernel)
theorem dX10_pullerAt_131 : decode cX10_pullerAt 131 = .ok (.iload 5, 2) := zq_1 zo_21 zkX10_pullerAt_128 3 rfl rfl 5 rfl
theorem dX10_pullerAt_133 : decode cX10_pullerAt 133 = .ok (.goto 5, 3) := zq_2s zo_167 zkX10_pullerAt_128 5 rfl rfl 0 5 rfl rfl _ (by decide +kernel)
theorem dX10_pullerAt_136 : decode cX10_pullerAt 136 = .ok (.iload 4, 2) := zq_1 zo_21 zkX10_pullerAt_128 8 rfl rfl 4 rfl
theorem dX10_pullerAt_138 : decode cX10_pullerAt 138 = .ok (.ireturn, 1) := zq_0 zo_172 zkX10_pullerAt_128 10 rfl rfl
theorem dX10_pullerAt_139 : decode cX10_pullerAt 139 = .ok (.aload_n 0, 1) := zq_0 zo_42 zkX10_pullerAt_128 11 rfl rfl
theorem dX10_pullerAt_140 : decode cX10_pullerAt 140 = .ok (.iload 6, 2) := zq_1 zo_21 zkX10_pullerAt_128 12 rfl rfl 6 rfl
theorem dX10_pullerAt_142 : decode cX10_pullerAt 142 = .ok (.invokevirtual 282, 3) := zq_2 zo_182 zkX10_pullerAt_128 14 rfl rfl 1 26 rfl rfl _ rfl
theorem dX10_pullerAt_145 : decode cX10_pullerAt 145 = .ok (.istore 7, 2) := zq_1 zo_54 zkX10_pullerAt_128 17 rfl rfl 7 rfl
theorem dX10_pullerAt_147 : decode cX10_pullerAt 147 = .ok (.iconst 0, 1) := zq_0 zo_3 zkX10_pullerAt_128 19 rfl rfl
theorem dX10_pullerAt_148 : decode cX10_pullerAt 148 = .ok (.istore 8, 2) := zq_1 zo_54 zkX10_pullerAt_128 20 rfl rfl 8 rfl
theorem dX10_pullerAt_150 : decode cX10_pullerAt 150 = .ok (.iload 8, 2) := zq_1 zo_21 zkX10_pullerAt_128 22 rfl rfl 8 rfl
theorem dX10_pullerAt_152 : decode cX10_pullerAt 152 = .ok (.aload_n 0, 1) := zq_0 zo_42 zkX10_pullerAt_128 24 rfl rfl
theorem dX10_pullerAt_153 : decode cX10_pullerAt 153 = .ok (.getfield 251, 3) := zq_2 zo_180 zkX10_pullerAt_128 25 rfl rfl 0 251 rfl rfl _ rfl
theorem dX10_pullerAt_156 : decode cX10_pullerAt 156 = .ok (.if_icmp .ge 39, 3) := zq_2s zo_162 zkX10_pullerAt_128 28 rfl rfl 0 39 rfl rfl _ (by decide +kernel)
theorem dX10_pullerAt_159 : decode cX10_pullerAt 159 = .ok (.iload_n 3, 1) := zq_0 zo_29 zkX10_pullerAt_128 31 rfl rfl
theorem zkX10_pullerAt_160 : zqc cX10_pullerAt 160 [21, 8, 184, 0, 95, 153, 0, 24, 42, 21, 8, 27, 182, 1, 23, 153, 0, 14, 21, 7, 154, 0, 6, 21, 8, 172, 132, 7, 255, 132, 8, 1, 167, 255] := zq_of 34 (by decide +kernel)
theorem dX10_pullerAt_160 : decode cX10_pullerAt 160 = .ok (.iload 8, 2) := zq_1 zo_21 zkX10_pullerAt_160 0 rfl rfl 8 rfl
theorem dX10_pullerAt_162 : decode cX10_pullerAt 162 = .ok (.invokestatic 95, 3) := zq_2 zo_184 zkX10_pullerAt_160 2 rfl rfl 0 95 rfl rfl _ rfl
theorem dX10_pullerAt_165 : decode cX10_pullerAt 165 = .ok (.ifCond .eq 24, 3) := zq_2s zo_153 zkX10_pullerAt_160 5 rfl rfl 0 24 rfl rfl _ (by decide +kernel)
theorem dX10_pullerAt_168 : decode cX10_pullerAt 168 = .ok (.aload_n 0, 1) := zq_0 zo_42 zkX10_pullerAt_160 8 rfl rfl
theorem dX10_pullerAt_169 : decode cX10_pullerAt 169 = .ok (.iload 8, 2) := zq_1 zo_21 zkX10_pullerAt_160 9 rfl rfl 8 rfl
theorem dX10_pullerAt_171 : decode cX10_pullerAt 171 = .ok (.iload_n 1, 1) := zq_0 zo_27 zkX10_pullerAt_160 11 rfl rfl
theorem dX10_pullerAt_172 : decode cX10_pullerAt 172 = .ok (.invokevirtual 279, 3) := zq_2 zo_182 zkX10_pullerAt_160 12 rfl rfl 1 23 rfl rfl _ rfl
theorem dX10_pullerAt_175 : decode cX10_pullerAt 175 = .ok (.ifCond .eq 14, 3) := zq_2s zo_153 zkX10_pullerAt_160 15 rfl rfl 0 14 rfl rfl _ (by decide +kernel)
theorem dX10_pullerAt_178 : decode cX10_pullerAt 178 = .ok (.iload 7, 2) := zq_1 zo_21 zkX10_pullerAt_160 18 rfl rfl 7 rfl
theorem dX10_pullerAt_180 : decode cX10_pullerAt 180 = .ok (.ifCond .ne 6, 3) := zq_2s zo_154 zkX10_pullerAt_160 20 rfl rfl 0 6 rfl rfl _ (by decide +kernel)
theorem dX10_pullerAt_183 : decode cX10_pullerAt 183 = .ok (.iload 8, 2) := zq_1 zo_21 zkX10_pullerAt_160 23 rfl rfl 8 rfl
theorem dX10_pullerAt_185 : decode cX10_pullerAt 185 = .ok (.ireturn, 1) := zq_0 zo_172 zkX10_pullerAt_160 25 rfl rfl
theorem dX10_pullerAt_186 : decode cX10_pullerAt 186 = .ok (.iinc 7 (-1), 3) := zq_ii zo_132 zkX10_pullerAt_160 26 rfl rfl 7 255 rfl rfl _ (by decide +kernel)
theorem dX10_pullerAt_189 : decode cX10_pullerAt 189 = .ok (.iinc 8 1, 3) := zq_ii zo_132 zkX10_pullerAt_160 29 rfl rfl 8 1 rfl rfl _ (by decide +kernel)
theorem zkX10_pullerAt_192 : zqc cX10_pullerAt 192 [167, 255, 214, 2, 172] := zq_of 5 (by decide +kernel)
theorem dX10_pullerAt_192 : decode cX10_pullerAt 192 = .ok (.goto (-42), 3) := zq_2s zo_167 zkX10_pullerAt_192 0 rfl rfl 255 214 rfl rfl _ (by decide +kernel)
theorem dX10_pullerAt_195 : decode cX10_pullerAt 195 = .ok (.iconst (-1), 1) := zq_0 zo_2 zkX10_pullerAt_192 3 rfl rfl
theorem dX10_pullerAt_196 : decode cX10_pullerAt 196 = .ok (.ireturn, 1) := zq_0 zo_172 zkX10_pullerAt_192 4 rfl rfl
theorem zkX10_begin_0 : zqc cX10_begin 0 [42, 3, 181, 1, 20, 42, 3, 181, 1, 29, 3, 60, 27, 16, 6, 162, 0, 30, 42, 180, 0, 62, 27, 3, 79, 42, 180, 0, 68, 27, 3, 79, 42, 180] := zq_of 34 (by decide +kernel)
theorem dX10_begin_0 : decode cX10_begin 0 = .ok (.aload_n 0, 1) := zq_0 zo_42 zkX10_begin_0 0 rfl rfl
theorem dX10_begin_1 : decode cX10_begin 1 = .ok (.iconst 0, 1) := zq_0 zo_3 zkX10_begin_0 1 rfl rfl
theorem dX10_begin_2 : decode cX10_begin 2 = .ok (.putfield 276, 3) := zq_2 zo_181 zkX10_begin_0 2 rfl rfl 1 20 rfl rfl _ rfl
theorem dX10_begin_5 : decode cX10_begin 5 = .ok (.aload_n 0, 1) := zq_0 zo_42 zkX10_begin_0 5 rfl rfl
theorem dX10_begin_6 : decode cX10_begin 6 = .ok (.iconst 0, 1) := zq_0 zo_3 zkX10_begin_0 6 rfl rfl
theorem dX10_begin_7 : decode cX10_begin 7 = .ok (.putfield 285, 3) := zq_2 zo_181 zkX10_begin_0 7 rfl rfl 1 29 rfl rfl _ rfl
theorem dX10_begin_10 : decode cX10_begin 10 = .ok (.iconst 0, 1) := zq_0 zo_3 zkX10_begin_0 10 rfl rfl
theorem dX10_begin_11 : decode cX10_begin 11 = .ok (.istore_n 1, 1) := zq_0 zo_60 zkX10_begin_0 11 rfl rfl
theorem dX10_begin_12 : decode cX10_begin 12 = .ok (.iload_n 1, 1) := zq_0 zo_27 zkX10_begin_0 12 rfl rfl
theorem dX10_begin_13 : decode cX10_begin 13 = .ok (.bipush 6, 2) := zq_1s zo_16 zkX10_begin_0 13 rfl rfl 6 rfl _ (by decide +kernel)
theorem dX10_begin_15 : decode cX10_begin 15 = .ok (.if_icmp .ge 30, 3) := zq_2s zo_162 zkX10_begin_0 15 rfl rfl 0 30 rfl rfl _ (by decide +kernel)
theorem dX10_begin_18 : decode cX10_begin 18 = .ok (.aload_n 0, 1) := zq_0 zo_42 zkX10_begin_0 18 rfl rfl
theorem dX10_begin_19 : decode cX10_begin 19 = .ok (.getfield 62, 3) := zq_2 zo_180 zkX10_begin_0 19 rfl rfl 0 62 rfl rfl _ rfl
theorem dX10_begin_22 : decode cX10_begin 22 = .ok (.iload_n 1, 1) := zq_0 zo_27 zkX10_begin_0 22 rfl rfl
theorem dX10_begin_23 : decode cX10_begin 23 = .ok (.iconst 0, 1) := zq_0 zo_3 zkX10_begin_0 23 rfl rfl
theorem dX10_begin_24 : decode cX10_begin 24 = .ok (.iastore, 1) := zq_0 zo_79 zkX10_begin_0 24 rfl rfl
theorem dX10_begin_25 : decode cX10_begin 25 = .ok (.aload_n 0, 1) := zq_0 zo_42 zkX10_begin_0 25 rfl rfl
theorem dX10_begin_26 : decode cX10_begin 26 = .ok (.getfield 68, 3) := zq_2 zo_180 zkX10_begin_0 26 rfl rfl 0 68 rfl rfl _ rfl
theorem dX10_begin_29 : decode cX10_begin 29 = .ok (.iload_n 1, 1) := zq_0 zo_27 zkX10_begin_0 29 rfl rfl
theorem dX10_begin_30 : decode cX10_begin 30 = .ok (.iconst 0, 1) := zq_0 zo_3 zkX10_begin_0 30 rfl rfl
theorem dX10_begin_31 : decode cX10_begin 31 = .ok (.iastore, 1) := zq_0 zo_79 zkX10_begin_0 31 rfl rfl
theorem zkX10_begin_32 : zqc cX10_begin 32 [42, 180, 0, 71, 27, 3, 84, 132, 1, 1, 167, 255, 226, 177] := zq_of 14 (by decide +kernel)
theorem dX10_begin_32 : decode cX10_begin 32 = .ok (.aload_n 0, 1) := zq_0 zo_42 zkX10_begin_32 0 rfl rfl
theorem dX10_begin_33 : decode cX10_begin 33 = .ok (.getfield 71, 3) := zq_2 zo_180 zkX10_begin_32 1 rfl rfl 0 71 rfl rfl _ rfl
theorem dX10_begin_36 : decode cX10_begin 36 = .ok (.iload_n 1, 1) := zq_0 zo_27 zkX10_begin_32 4 rfl rfl
theorem dX10_begin_37 : decode cX10_begin 37 = .ok (.iconst 0, 1) := zq_0 zo_3 zkX10_begin_32 5 rfl rfl
theorem dX10_begin_38 : decode cX10_begin 38 = .ok (.bastore, 1) := zq_0 zo_84 zkX10_begin_32 6 rfl rfl
theorem dX10_begin_39 : decode cX10_begin 39 = .ok (.iinc 1 1, 3) := zq_ii zo_132 zkX10_begin_32 7 rfl rfl 1 1 rfl rfl _ (by decide +kernel)
theorem dX10_begin_42 : decode cX10_begin 42 = .ok (.goto (-30), 3) := zq_2s zo_167 zkX10_begin_32 10 rfl rfl 255 226 rfl rfl _ (by decide +kernel)
theorem dX10_begin_45 : decode cX10_begin 45 = .ok (.return_, 1) := zq_0 zo_177 zkX10_begin_32 13 rfl rfl
theorem zkX10_pullsAt_0 : zqc cX10_pullsAt 0 [42, 180, 0, 59, 27, 28, 79, 42, 180, 0, 65, 27, 3, 79, 28, 2, 160, 0, 4, 177, 42, 28, 5, 182, 1, 10, 42, 180, 0, 62, 28, 46, 100, 62] := zq_of 34 (by decide +kernel)
theorem dX10_pullsAt_0 : decode cX10_pullsAt 0 = .ok (.aload_n 0, 1) := zq_0 zo_42 zkX10_pullsAt_0 0 rfl rfl
theorem dX10_pullsAt_1 : decode cX10_pullsAt 1 = .ok (.getfield 59, 3) := zq_2 zo_180 zkX10_pullsAt_0 1 rfl rfl 0 59 rfl rfl _ rfl
theorem dX10_pullsAt_4 : decode cX10_pullsAt 4 = .ok (.iload_n 1, 1) := zq_0 zo_27 zkX10_pullsAt_0 4 rfl rfl
theorem dX10_pullsAt_5 : decode cX10_pullsAt 5 = .ok (.iload_n 2, 1) := zq_0 zo_28 zkX10_pullsAt_0 5 rfl rfl
theorem dX10_pullsAt_6 : decode cX10_pullsAt 6 = .ok (.iastore, 1) := zq_0 zo_79 zkX10_pullsAt_0 6 rfl rfl
theorem dX10_pullsAt_7 : decode cX10_pullsAt 7 = .ok (.aload_n 0, 1) := zq_0 zo_42 zkX10_pullsAt_0 7 rfl rfl
theorem dX10_pullsAt_8 : decode cX10_pullsAt 8 = .ok (.getfield 65, 3) := zq_2 zo_180 zkX10_pullsAt_0 8 rfl rfl 0 65 rfl rfl _ rfl
theorem dX10_pullsAt_11 : decode cX10_pullsAt 11 = .ok (.iload_n 1, 1) := zq_0 zo_27 zkX10_pullsAt_0 11 rfl rfl
theorem dX10_pullsAt_12 : decode cX10_pullsAt 12 = .ok (.iconst 0, 1) := zq_0 zo_3 zkX10_pullsAt_0 12 rfl rfl
theorem dX10_pullsAt_13 : decode cX10_pullsAt 13 = .ok (.iastore, 1) := zq_0 zo_79 zkX10_pullsAt_0 13 rfl rfl
theorem dX10_pullsAt_14 : decode cX10_pullsAt 14 = .ok (.iload_n 2, 1) := zq_0 zo_28 zkX10_pullsAt_0 14 rfl rfl
theorem dX10_pullsAt_15 : decode cX10_pullsAt 15 = .ok (.iconst (-1), 1) := zq_0 zo_2 zkX10_pullsAt_0 15 rfl rfl
theorem dX10_pullsAt_16 : decode cX10_pullsAt 16 = .ok (.if_icmp .ne 4, 3) := zq_2s zo_160 zkX10_pullsAt_0 16 rfl rfl 0 4 rfl rfl _ (by decide +kernel)
theorem dX10_pullsAt_19 : decode cX10_pullsAt 19 = .ok (.return_, 1) := zq_0 zo_177 zkX10_pullsAt_0 19 rfl rfl
theorem dX10_pullsAt_20 : decode cX10_pullsAt 20 = .ok (.aload_n 0, 1) := zq_0 zo_42 zkX10_pullsAt_0 20 rfl rfl
theorem dX10_pullsAt_21 : decode cX10_pullsAt 21 = .ok (.iload_n 2, 1) := zq_0 zo_28 zkX10_pullsAt_0 21 rfl rfl
theorem dX10_pullsAt_22 : decode cX10_pullsAt 22 = .ok (.iconst 2, 1) := zq_0 zo_5 zkX10_pullsAt_0 22 rfl rfl
theorem dX10_pullsAt_23 : decode cX10_pullsAt 23 = .ok (.invokevirtual 266, 3) := zq_2 zo_182 zkX10_pullsAt_0 23 rfl rfl 1 10 rfl rfl _ rfl
theorem dX10_pullsAt_26 : decode cX10_pullsAt 26 = .ok (.aload_n 0, 1) := zq_0 zo_42 zkX10_pullsAt_0 26 rfl rfl
theorem dX10_pullsAt_27 : decode cX10_pullsAt 27 = .ok (.getfield 62, 3) := zq_2 zo_180 zkX10_pullsAt_0 27 rfl rfl 0 62 rfl rfl _ rfl
theorem dX10_pullsAt_30 : decode cX10_pullsAt 30 = .ok (.iload_n 2, 1) := zq_0 zo_28 zkX10_pullsAt_0 30 rfl rfl
theorem dX10_pullsAt_31 : decode cX10_pullsAt 31 = .ok (.iaload, 1) := zq_0 zo_46 zkX10_pullsAt_0 31 rfl rfl
theorem zkX10_pullsAt_32 : zqc cX10_pullsAt 32 [100, 62, 42, 180, 0, 53, 27, 46, 29, 162, 0, 12, 42, 180, 0, 53, 27, 46, 167, 0, 4, 29, 54, 4, 42, 180, 0, 62, 28, 92, 46, 21, 4, 96] := zq_of 34 (by decide +kernel)
theorem dX10_pullsAt_32 : decode cX10_pullsAt 32 = .ok (.isub, 1) := zq_0 zo_100 zkX10_pullsAt_32 0 rfl rfl
theorem dX10_pullsAt_33 : decode cX10_pullsAt 33 = .ok (.istore_n 3, 1) := zq_0 zo_62 zkX10_pullsAt_32 1 rfl rfl
theorem dX10_pullsAt_34 : decode cX10_pullsAt 34 = .ok (.aload_n 0, 1) := zq_0 zo_42 zkX10_pullsAt_32 2 rfl rfl
theorem dX10_pullsAt_35 : decode cX10_pullsAt 35 = .ok (.getfield 53, 3) := zq_2 zo_180 zkX10_pullsAt_32 3 rfl rfl 0 53 rfl rfl _ rfl
theorem dX10_pullsAt_38 : decode cX10_pullsAt 38 = .ok (.iload_n 1, 1) := zq_0 zo_27 zkX10_pullsAt_32 6 rfl rfl
theorem dX10_pullsAt_39 : decode cX10_pullsAt 39 = .ok (.iaload, 1) := zq_0 zo_46 zkX10_pullsAt_32 7 rfl rfl
theorem dX10_pullsAt_40 : decode cX10_pullsAt 40 = .ok (.iload_n 3, 1) := zq_0 zo_29 zkX10_pullsAt_32 8 rfl rfl
theorem dX10_pullsAt_41 : decode cX10_pullsAt 41 = .ok (.if_icmp .ge 12, 3) := zq_2s zo_162 zkX10_pullsAt_32 9 rfl rfl 0 12 rfl rfl _ (by decide +kernel)
theorem dX10_pullsAt_44 : decode cX10_pullsAt 44 = .ok (.aload_n 0, 1) := zq_0 zo_42 zkX10_pullsAt_32 12 rfl rfl
theorem dX10_pullsAt_45 : decode cX10_pullsAt 45 = .ok (.getfield 53, 3) := zq_2 zo_180 zkX10_pullsAt_32 13 rfl rfl 0 53 rfl rfl _ rfl
theorem dX10_pullsAt_48 : decode cX10_pullsAt 48 = .ok (.iload_n 1, 1) := zq_0 zo_27 zkX10_pullsAt_32 16 rfl rfl
theorem dX10_pullsAt_49 : decode cX10_pullsAt 49 = .ok (.iaload, 1) := zq_0 zo_46 zkX10_pullsAt_32 17 rfl rfl
theorem dX10_pullsAt_50 : decode cX10_pullsAt 50 = .ok (.goto 4, 3) := zq_2s zo_167 zkX10_pullsAt_32 18 rfl rfl 0 4 rfl rfl _ (by decide +kernel)
theorem dX10_pullsAt_53 : decode cX10_pullsAt 53 = .ok (.iload_n 3, 1) := zq_0 zo_29 zkX10_pullsAt_32 21 rfl rfl
theorem dX10_pullsAt_54 : decode cX10_pullsAt 54 = .ok (.istore 4, 2) := zq_1 zo_54 zkX10_pullsAt_32 22 rfl rfl 4 rfl
theorem dX10_pullsAt_56 : decode cX10_pullsAt 56 = .ok (.aload_n 0, 1) := zq_0 zo_42 zkX10_pullsAt_32 24 rfl rfl
theorem dX10_pullsAt_57 : decode cX10_pullsAt 57 = .ok (.getfield 62, 3) := zq_2 zo_180 zkX10_pullsAt_32 25 rfl rfl 0 62 rfl rfl _ rfl
theorem dX10_pullsAt_60 : decode cX10_pullsAt 60 = .ok (.iload_n 2, 1) := zq_0 zo_28 zkX10_pullsAt_32 28 rfl rfl
theorem dX10_pullsAt_61 : decode cX10_pullsAt 61 = .ok (.dup2, 1) := zq_0 zo_92 zkX10_pullsAt_32 29 rfl rfl
theorem dX10_pullsAt_62 : decode cX10_pullsAt 62 = .ok (.iaload, 1) := zq_0 zo_46 zkX10_pullsAt_32 30 rfl rfl
theorem dX10_pullsAt_63 : decode cX10_pullsAt 63 = .ok (.iload 4, 2) := zq_1 zo_21 zkX10_pullsAt_32 31 rfl rfl 4 rfl
theorem zkX10_pullsAt_64 : zqc cX10_pullsAt 64 [4, 96, 79, 42, 180, 0, 65, 27, 21, 4, 79, 42, 180, 0, 68, 28, 92, 46, 21, 4, 21, 4, 6, 108, 100, 96, 79, 42, 89, 180, 1, 29, 21, 4] := zq_of 34 (by decide +kernel)
theorem dX10_pullsAt_65 : decode cX10_pullsAt 65 = .ok (.iadd, 1) := zq_0 zo_96 zkX10_pullsAt_64 1 rfl rfl
theorem dX10_pullsAt_66 : decode cX10_pullsAt 66 = .ok (.iastore, 1) := zq_0 zo_79 zkX10_pullsAt_64 2 rfl rfl
theorem dX10_pullsAt_67 : decode cX10_pullsAt 67 = .ok (.aload_n 0, 1) := zq_0 zo_42 zkX10_pullsAt_64 3 rfl rfl
theorem dX10_pullsAt_68 : decode cX10_pullsAt 68 = .ok (.getfield 65, 3) := zq_2 zo_180 zkX10_pullsAt_64 4 rfl rfl 0 65 rfl rfl _ rfl
theorem dX10_pullsAt_71 : decode cX10_pullsAt 71 = .ok (.iload_n 1, 1) := zq_0 zo_27 zkX10_pullsAt_64 7 rfl rfl
theorem dX10_pullsAt_72 : decode cX10_pullsAt 72 = .ok (.iload 4, 2) := zq_1 zo_21 zkX10_pullsAt_64 8 rfl rfl 4 rfl
theorem dX10_pullsAt_74 : decode cX10_pullsAt 74 = .ok (.iastore, 1) := zq_0 zo_79 zkX10_pullsAt_64 10 rfl rfl
theorem dX10_pullsAt_75 : decode cX10_pullsAt 75 = .ok (.aload_n 0, 1) := zq_0 zo_42 zkX10_pullsAt_64 11 rfl rfl
theorem dX10_pullsAt_76 : decode cX10_pullsAt 76 = .ok (.getfield 68, 3) := zq_2 zo_180 zkX10_pullsAt_64 12 rfl rfl 0 68 rfl rfl _ rfl
theorem dX10_pullsAt_79 : decode cX10_pullsAt 79 = .ok (.iload_n 2, 1) := zq_0 zo_28 zkX10_pullsAt_64 15 rfl rfl
theorem dX10_pullsAt_80 : decode cX10_pullsAt 80 = .ok (.dup2, 1) := zq_0 zo_92 zkX10_pullsAt_64 16 rfl rfl
theorem dX10_pullsAt_81 : decode cX10_pullsAt 81 = .ok (.iaload, 1) := zq_0 zo_46 zkX10_pullsAt_64 17 rfl rfl
theorem dX10_pullsAt_82 : decode cX10_pullsAt 82 = .ok (.iload 4, 2) := zq_1 zo_21 zkX10_pullsAt_64 18 rfl rfl 4 rfl
theorem dX10_pullsAt_84 : decode cX10_pullsAt 84 = .ok (.iload 4, 2) := zq_1 zo_21 zkX10_pullsAt_64 20 rfl rfl 4 rfl
theorem dX10_pullsAt_86 : decode cX10_pullsAt 86 = .ok (.iconst 3, 1) := zq_0 zo_6 zkX10_pullsAt_64 22 rfl rfl
theorem dX10_pullsAt_87 : decode cX10_pullsAt 87 = .ok (.idiv, 1) := zq_0 zo_108 zkX10_pullsAt_64 23 rfl rfl
theorem dX10_pullsAt_88 : decode cX10_pullsAt 88 = .ok (.isub, 1) := zq_0 zo_100 zkX10_pullsAt_64 24 rfl rfl
theorem dX10_pullsAt_89 : decode cX10_pullsAt 89 = .ok (.iadd, 1) := zq_0 zo_96 zkX10_pullsAt_64 25 rfl rfl
theorem dX10_pullsAt_90 : decode cX10_pullsAt 90 = .ok (.iastore, 1) := zq_0 zo_79 zkX10_pullsAt_64 26 rfl rfl
theorem dX10_pullsAt_91 : decode cX10_pullsAt 91 = .ok (.aload_n 0, 1) := zq_0 zo_42 zkX10_pullsAt_64 27 rfl rfl
theorem dX10_pullsAt_92 : decode cX10_pullsAt 92 = .ok (.dup, 1) := zq_0 zo_89 zkX10_pullsAt_64 28 rfl rfl
theorem dX10_pullsAt_93 : decode cX10_pullsAt 93 = .ok (.getfield 285, 3) := zq_2 zo_180 zkX10_pullsAt_64 29 rfl rfl 1 29 rfl rfl _ rfl
theorem zkX10_pullsAt_96 : zqc cX10_pullsAt 96 [21, 4, 6, 108, 96, 181, 1, 29, 42, 180, 0, 71, 28, 4, 84, 42, 89, 180, 1, 20, 42, 180, 0, 50, 27, 46, 96, 181, 1, 20, 177] := zq_of 31 (by decide +kernel)
theorem dX10_pullsAt_96 : decode cX10_pullsAt 96 = .ok (.iload 4, 2) := zq_1 zo_21 zkX10_pullsAt_96 0 rfl rfl 4 rfl
theorem dX10_pullsAt_98 : decode cX10_pullsAt 98 = .ok (.iconst 3, 1) := zq_0 zo_6 zkX10_pullsAt_96 2 rfl rfl
theorem dX10_pullsAt_99 : decode cX10_pullsAt 99 = .ok (.idiv, 1) := zq_0 zo_108 zkX10_pullsAt_96 3 rfl rfl
theorem dX10_pullsAt_100 : decode cX10_pullsAt 100 = .ok (.iadd, 1) := zq_0 zo_96 zkX10_pullsAt_96 4 rfl rfl
theorem dX10_pullsAt_101 : decode cX10_pullsAt 101 = .ok (.putfield 285, 3) := zq_2 zo_181 zkX10_pullsAt_96 5 rfl rfl 1 29 rfl rfl _ rfl
theorem dX10_pullsAt_104 : decode cX10_pullsAt 104 = .ok (.aload_n 0, 1) := zq_0 zo_42 zkX10_pullsAt_96 8 rfl rfl
theorem dX10_pullsAt_105 : decode cX10_pullsAt 105 = .ok (.getfield 71, 3) := zq_2 zo_180 zkX10_pullsAt_96 9 rfl rfl 0 71 rfl rfl _ rfl
theorem dX10_pullsAt_108 : decode cX10_pullsAt 108 = .ok (.iload_n 2, 1) := zq_0 zo_28 zkX10_pullsAt_96 12 rfl rfl
theorem dX10_pullsAt_109 : decode cX10_pullsAt 109 = .ok (.iconst 1, 1) := zq_0 zo_4 zkX10_pullsAt_96 13 rfl rfl
theorem dX10_pullsAt_110 : decode cX10_pullsAt 110 = .ok (.bastore, 1) := zq_0 zo_84 zkX10_pullsAt_96 14 rfl rfl
theorem dX10_pullsAt_111 : decode cX10_pullsAt 111 = .ok (.aload_n 0, 1) := zq_0 zo_42 zkX10_pullsAt_96 15 rfl rfl
theorem dX10_pullsAt_112 : decode cX10_pullsAt 112 = .ok (.dup, 1) := zq_0 zo_89 zkX10_pullsAt_96 16 rfl rfl
theorem dX10_pullsAt_113 : decode cX10_pullsAt 113 = .ok (.getfield 276, 3) := zq_2 zo_180 zkX10_pullsAt_96 17 rfl rfl 1 20 rfl rfl _ rfl
theorem dX10_pullsAt_116 : decode cX10_pullsAt 116 = .ok (.aload_n 0, 1) := zq_0 zo_42 zkX10_pullsAt_96 20 rfl rfl
theorem dX10_pullsAt_117 : decode cX10_pullsAt 117 = .ok (.getfield 50, 3) := zq_2 zo_180 zkX10_pullsAt_96 21 rfl rfl 0 50 rfl rfl _ rfl
theorem dX10_pullsAt_120 : decode cX10_pullsAt 120 = .ok (.iload_n 1, 1) := zq_0 zo_27 zkX10_pullsAt_96 24 rfl rfl
theorem dX10_pullsAt_121 : decode cX10_pullsAt 121 = .ok (.iaload, 1) := zq_0 zo_46 zkX10_pullsAt_96 25 rfl rfl
theorem dX10_pullsAt_122 : decode cX10_pullsAt 122 = .ok (.iadd, 1) := zq_0 zo_96 zkX10_pullsAt_96 26 rfl rfl
theorem dX10_pullsAt_123 : decode cX10_pullsAt 123 = .ok (.putfield 276, 3) := zq_2 zo_181 zkX10_pullsAt_96 27 rfl rfl 1 20 rfl rfl _ rfl
theorem dX10_pullsAt_126 : decode cX10_pullsAt 126 = .ok (.return_, 1) := zq_0 zo_177 zkX10_pullsAt_96 30 rfl rfl
theorem zkX10_timesBy_0 : zqc cX10_timesBy 0 [3, 60, 3, 61, 42, 3, 181, 1, 32, 42, 2, 181, 1, 35, 3, 62, 29, 42, 180, 0, 245, 162, 0, 105, 42, 180, 0, 56, 29, 27, 79, 42, 29, 7] := zq_of 34 (by decide +kernel)
theorem dX10_timesBy_0 : decode cX10_timesBy 0 = .ok (.iconst 0, 1) := zq_0 zo_3 zkX10_timesBy_0 0 rfl rfl
theorem dX10_timesBy_1 : decode cX10_timesBy 1 = .ok (.istore_n 1, 1) := zq_0 zo_60 zkX10_timesBy_0 1 rfl rfl
theorem dX10_timesBy_2 : decode cX10_timesBy 2 = .ok (.iconst 0, 1) := zq_0 zo_3 zkX10_timesBy_0 2 rfl rfl
theorem dX10_timesBy_3 : decode cX10_timesBy 3 = .ok (.istore_n 2, 1) := zq_0 zo_61 zkX10_timesBy_0 3 rfl rfl
theorem dX10_timesBy_4 : decode cX10_timesBy 4 = .ok (.aload_n 0, 1) := zq_0 zo_42 zkX10_timesBy_0 4 rfl rfl
theorem dX10_timesBy_5 : decode cX10_timesBy 5 = .ok (.iconst 0, 1) := zq_0 zo_3 zkX10_timesBy_0 5 rfl rfl
theorem dX10_timesBy_6 : decode cX10_timesBy 6 = .ok (.putfield 288, 3) := zq_2 zo_181 zkX10_timesBy_0 6 rfl rfl 1 32 rfl rfl _ rfl
theorem dX10_timesBy_9 : decode cX10_timesBy 9 = .ok (.aload_n 0, 1) := zq_0 zo_42 zkX10_timesBy_0 9 rfl rfl
theorem dX10_timesBy_10 : decode cX10_timesBy 10 = .ok (.iconst (-1), 1) := zq_0 zo_2 zkX10_timesBy_0 10 rfl rfl
theorem dX10_timesBy_11 : decode cX10_timesBy 11 = .ok (.putfield 291, 3) := zq_2 zo_181 zkX10_timesBy_0 11 rfl rfl 1 35 rfl rfl _ rfl
theorem dX10_timesBy_14 : decode cX10_timesBy 14 = .ok (.iconst 0, 1) := zq_0 zo_3 zkX10_timesBy_0 14 rfl rfl
theorem dX10_timesBy_15 : decode cX10_timesBy 15 = .ok (.istore_n 3, 1) := zq_0 zo_62 zkX10_timesBy_0 15 rfl rfl
theorem dX10_timesBy_16 : decode cX10_timesBy 16 = .ok (.iload_n 3, 1) := zq_0 zo_29 zkX10_timesBy_0 16 rfl rfl
theorem dX10_timesBy_17 : decode cX10_timesBy 17 = .ok (.aload_n 0, 1) := zq_0 zo_42 zkX10_timesBy_0 17 rfl rfl
theorem dX10_timesBy_18 : decode cX10_timesBy 18 = .ok (.getfield 245, 3) := zq_2 zo_180 zkX10_timesBy_0 18 rfl rfl 0 245 rfl rfl _ rfl
theorem dX10_timesBy_21 : decode cX10_timesBy 21 = .ok (.if_icmp .ge 105, 3) := zq_2s zo_162 zkX10_timesBy_0 21 rfl rfl 0 105 rfl rfl _ (by decide +kernel)
theorem dX10_timesBy_24 : decode cX10_timesBy 24 = .ok (.aload_n 0, 1) := zq_0 zo_42 zkX10_timesBy_0 24 rfl rfl
theorem dX10_timesBy_25 : decode cX10_timesBy 25 = .ok (.getfield 56, 3) := zq_2 zo_180 zkX10_timesBy_0 25 rfl rfl 0 56 rfl rfl _ rfl
theorem dX10_timesBy_28 : decode cX10_timesBy 28 = .ok (.iload_n 3, 1) := zq_0 zo_29 zkX10_timesBy_0 28 rfl rfl
theorem dX10_timesBy_29 : decode cX10_timesBy 29 = .ok (.iload_n 1, 1) := zq_0 zo_27 zkX10_timesBy_0 29 rfl rfl
theorem dX10_timesBy_30 : decode cX10_timesBy 30 = .ok (.iastore, 1) := zq_0 zo_79 zkX10_timesBy_0 30 rfl rfl
theorem dX10_timesBy_31 : decode cX10_timesBy 31 = .ok (.aload_n 0, 1) := zq_0 zo_42 zkX10_timesBy_0 31 rfl rfl
theorem zkX10_timesBy_32 : zqc cX10_timesBy 32 [29, 7, 182, 0, 242, 2, 159, 0, 30, 42, 89, 180, 1, 32, 3, 27, 42, 29, 7, 182, 0, 242, 100, 42, 7, 182, 0, 238, 100, 184, 0, 160, 96, 181] := zq_of 34 (by decide +kernel)
theorem dX10_timesBy_32 : decode cX10_timesBy 32 = .ok (.iload_n 3, 1) := zq_0 zo_29 zkX10_timesBy_32 0 rfl rfl
theorem dX10_timesBy_33 : decode cX10_timesBy 33 = .ok (.iconst 4, 1) := zq_0 zo_7 zkX10_timesBy_32 1 rfl rfl
theorem dX10_timesBy_34 : decode cX10_timesBy 34 = .ok (.invokevirtual 242, 3) := zq_2 zo_182 zkX10_timesBy_32 2 rfl rfl 0 242 rfl rfl _ rfl
theorem dX10_timesBy_37 : decode cX10_timesBy 37 = .ok (.iconst (-1), 1) := zq_0 zo_2 zkX10_timesBy_32 5 rfl rfl
theorem dX10_timesBy_38 : decode cX10_timesBy 38 = .ok (.if_icmp .eq 30, 3) := zq_2s zo_159 zkX10_timesBy_32 6 rfl rfl 0 30 rfl rfl _ (by decide +kernel)
theorem dX10_timesBy_41 : decode cX10_timesBy 41 = .ok (.aload_n 0, 1) := zq_0 zo_42 zkX10_timesBy_32 9 rfl rfl
theorem dX10_timesBy_42 : decode cX10_timesBy 42 = .ok (.dup, 1) := zq_0 zo_89 zkX10_timesBy_32 10 rfl rfl
theorem dX10_timesBy_43 : decode cX10_timesBy 43 = .ok (.getfield 288, 3) := zq_2 zo_180 zkX10_timesBy_32 11 rfl rfl 1 32 rfl rfl _ rfl
theorem dX10_timesBy_46 : decode cX10_timesBy 46 = .ok (.iconst 0, 1) := zq_0 zo_3 zkX10_timesBy_32 14 rfl rfl
theorem dX10_timesBy_47 : decode cX10_timesBy 47 = .ok (.iload_n 1, 1) := zq_0 zo_27 zkX10_timesBy_32 15 rfl rfl
theorem dX10_timesBy_48 : decode cX10_timesBy 48 = .ok (.aload_n 0, 1) := zq_0 zo_42 zkX10_timesBy_32 16 rfl rfl
theorem dX10_timesBy_49 : decode cX10_timesBy 49 = .ok (.iload_n 3, 1) := zq_0 zo_29 zkX10_timesBy_32 17 rfl rfl
theorem dX10_timesBy_50 : decode cX10_timesBy 50 = .ok (.iconst 4, 1) := zq_0 zo_7 zkX10_timesBy_32 18 rfl rfl
theorem dX10_timesBy_51 : decode cX10_timesBy 51 = .ok (.invokevirtual 242, 3) := zq_2 zo_182 zkX10_timesBy_32 19 rfl rfl 0 242 rfl rfl _ rfl
theorem dX10_timesBy_54 : decode cX10_timesBy 54 = .ok (.isub, 1) := zq_0 zo_100 zkX10_timesBy_32 22 rfl rfl
theorem dX10_timesBy_55 : decode cX10_timesBy 55 = .ok (.aload_n 0, 1) := zq_0 zo_42 zkX10_timesBy_32 23 rfl rfl
theorem dX10_timesBy_56 : decode cX10_timesBy 56 = .ok (.iconst 4, 1) := zq_0 zo_7 zkX10_timesBy_32 24 rfl rfl
theorem dX10_timesBy_57 : decode cX10_timesBy 57 = .ok (.invokevirtual 238, 3) := zq_2 zo_182 zkX10_timesBy_32 25 rfl rfl 0 238 rfl rfl _ rfl
theorem dX10_timesBy_60 : decode cX10_timesBy 60 = .ok (.isub, 1) := zq_0 zo_100 zkX10_timesBy_32 28 rfl rfl
theorem dX10_timesBy_61 : decode cX10_timesBy 61 = .ok (.invokestatic 160, 3) := zq_2 zo_184 zkX10_timesBy_32 29 rfl rfl 0 160 rfl rfl _ rfl
theorem zkX10_timesBy_64 : zqc cX10_timesBy 64 [96, 181, 1, 32, 42, 180, 0, 59, 29, 46, 2, 159, 0, 36, 132, 2, 1, 42, 28, 42, 8, 182, 0, 238, 160, 0, 7, 29, 167, 0, 7, 42, 180, 1] := zq_of 34 (by decide +kernel)
theorem dX10_timesBy_64 : decode cX10_timesBy 64 = .ok (.iadd, 1) := zq_0 zo_96 zkX10_timesBy_64 0 rfl rfl
theorem dX10_timesBy_65 : decode cX10_timesBy 65 = .ok (.putfield 288, 3) := zq_2 zo_181 zkX10_timesBy_64 1 rfl rfl 1 32 rfl rfl _ rfl
theorem dX10_timesBy_68 : decode cX10_timesBy 68 = .ok (.aload_n 0, 1) := zq_0 zo_42 zkX10_timesBy_64 4 rfl rfl
theorem dX10_timesBy_69 : decode cX10_timesBy 69 = .ok (.getfield 59, 3) := zq_2 zo_180 zkX10_timesBy_64 5 rfl rfl 0 59 rfl rfl _ rfl
theorem dX10_timesBy_72 : decode cX10_timesBy 72 = .ok (.iload_n 3, 1) := zq_0 zo_29 zkX10_timesBy_64 8 rfl rfl
theorem dX10_timesBy_73 : decode cX10_timesBy 73 = .ok (.iaload, 1) := zq_0 zo_46 zkX10_timesBy_64 9 rfl rfl
theorem dX10_timesBy_74 : decode cX10_timesBy 74 = .ok (.iconst (-1), 1) := zq_0 zo_2 zkX10_timesBy_64 10 rfl rfl
theorem dX10_timesBy_75 : decode cX10_timesBy 75 = .ok (.if_icmp .eq 36, 3) := zq_2s zo_159 zkX10_timesBy_64 11 rfl rfl 0 36 rfl rfl _ (by decide +kernel)
theorem dX10_timesBy_78 : decode cX10_timesBy 78 = .ok (.iinc 2 1, 3) := zq_ii zo_132 zkX10_timesBy_64 14 rfl rfl 2 1 rfl rfl _ (by decide +kernel)
theorem dX10_timesBy_81 : decode cX10_timesBy 81 = .ok (.aload_n 0, 1) := zq_0 zo_42 zkX10_timesBy_64 17 rfl rfl
theorem dX10_timesBy_82 : decode cX10_timesBy 82 = .ok (.iload_n 2, 1) := zq_0 zo_28 zkX10_timesBy_64 18 rfl rfl
theorem dX10_timesBy_83 : decode cX10_timesBy 83 = .ok (.aload_n 0, 1) := zq_0 zo_42 zkX10_timesBy_64 19 rfl rfl
theorem dX10_timesBy_84 : decode cX10_timesBy 84 = .ok (.iconst 5, 1) := zq_0 zo_8 zkX10_timesBy_64 20 rfl rfl
theorem dX10_timesBy_85 : decode cX10_timesBy 85 = .ok (.invokevirtual 238, 3) := zq_2 zo_182 zkX10_timesBy_64 21 rfl rfl 0 238 rfl rfl _ rfl
theorem dX10_timesBy_88 : decode cX10_timesBy 88 = .ok (.if_icmp .ne 7, 3) := zq_2s zo_160 zkX10_timesBy_64 24 rfl rfl 0 7 rfl rfl _ (by decide +kernel)
theorem dX10_timesBy_91 : decode cX10_timesBy 91 = .ok (.iload_n 3, 1) := zq_0 zo_29 zkX10_timesBy_64 27 rfl rfl
theorem dX10_timesBy_92 : decode cX10_timesBy 92 = .ok (.goto 7, 3) := zq_2s zo_167 zkX10_timesBy_64 28 rfl rfl 0 7 rfl rfl _ (by decide +kernel)
theorem dX10_timesBy_95 : decode cX10_timesBy 95 = .ok (.aload_n 0, 1) := zq_0 zo_42 zkX10_timesBy_64 31 rfl rfl
theorem zkX10_timesBy_96 : zqc cX10_timesBy 96 [180, 1, 35, 181, 1, 35, 27, 42, 180, 0, 50, 29, 46, 96, 60, 27, 42, 180, 0, 47, 29, 46, 96, 60, 132, 3, 1, 167, 255, 149, 177] := zq_of 31 (by decide +kernel)
theorem dX10_timesBy_96 : decode cX10_timesBy 96 = .ok (.getfield 291, 3) := zq_2 zo_180 zkX10_timesBy_96 0 rfl rfl 1 35 rfl rfl _ rfl
theorem dX10_timesBy_99 : decode cX10_timesBy 99 = .ok (.putfield 291, 3) := zq_2 zo_181 zkX10_timesBy_96 3 rfl rfl 1 35 rfl rfl _ rfl
theorem dX10_timesBy_102 : decode cX10_timesBy 102 = .ok (.iload_n 1, 1) := zq_0 zo_27 zkX10_timesBy_96 6 rfl rfl
theorem dX10_timesBy_103 : decode cX10_timesBy 103 = .ok (.aload_n 0, 1) := zq_0 zo_42 zkX10_timesBy_96 7 rfl rfl
theorem dX10_timesBy_104 : decode cX10_timesBy 104 = .ok (.getfield 50, 3) := zq_2 zo_180 zkX10_timesBy_96 8 rfl rfl 0 50 rfl rfl _ rfl
theorem dX10_timesBy_107 : decode cX10_timesBy 107 = .ok (.iload_n 3, 1) := zq_0 zo_29 zkX10_timesBy_96 11 rfl rfl
theorem dX10_timesBy_108 : decode cX10_timesBy 108 = .ok (.iaload, 1) := zq_0 zo_46 zkX10_timesBy_96 12 rfl rfl
theorem dX10_timesBy_109 : decode cX10_timesBy 109 = .ok (.iadd, 1) := zq_0 zo_96 zkX10_timesBy_96 13 rfl rfl
theorem dX10_timesBy_110 : decode cX10_timesBy 110 = .ok (.istore_n 1, 1) := zq_0 zo_60 zkX10_timesBy_96 14 rfl rfl
theorem dX10_timesBy_111 : decode cX10_timesBy 111 = .ok (.iload_n 1, 1) := zq_0 zo_27 zkX10_timesBy_96 15 rfl rfl
theorem dX10_timesBy_112 : decode cX10_timesBy 112 = .ok (.aload_n 0, 1) := zq_0 zo_42 zkX10_timesBy_96 16 rfl rfl
theorem dX10_timesBy_113 : decode cX10_timesBy 113 = .ok (.getfield 47, 3) := zq_2 zo_180 zkX10_timesBy_96 17 rfl rfl 0 47 rfl rfl _ rfl
theorem dX10_timesBy_116 : decode cX10_timesBy 116 = .ok (.iload_n 3, 1) := zq_0 zo_29 zkX10_timesBy_96 20 rfl rfl
theorem dX10_timesBy_117 : decode cX10_timesBy 117 = .ok (.iaload, 1) := zq_0 zo_46 zkX10_timesBy_96 21 rfl rfl
theorem dX10_timesBy_118 : decode cX10_timesBy 118 = .ok (.iadd, 1) := zq_0 zo_96 zkX10_timesBy_96 22 rfl rfl
theorem dX10_timesBy_119 : decode cX10_timesBy 119 = .ok (.istore_n 1, 1) := zq_0 zo_60 zkX10_timesBy_96 23 rfl rfl
theorem dX10_timesBy_120 : decode cX10_timesBy 120 = .ok (.iinc 3 1, 3) := zq_ii zo_132 zkX10_timesBy_96 24 rfl rfl 3 1 rfl rfl _ (by decide +kernel)
theorem dX10_timesBy_123 : decode cX10_timesBy 123 = .ok (.goto (-107), 3) := zq_2s zo_167 zkX10_timesBy_96 27 rfl rfl 255 149 rfl rfl _ (by decide +kernel)
theorem dX10_timesBy_126 : decode cX10_timesBy 126 = .ok (.return_, 1) := zq_0 zo_177 zkX10_timesBy_96 30 rfl rfl
theorem zkX10_go_0 : zqc cX10_go 0 [42, 28, 181, 1, 13, 42, 182, 1, 38, 3, 54, 4, 21, 4, 42, 180, 0, 248, 162, 0, 23, 42, 21, 4, 42, 21, 4, 27, 29, 182, 1, 41, 182, 1] := zq_of 34 (by decide +kernel)
theorem dX10_go_0 : decode cX10_go 0 = .ok (.aload_n 0, 1) := zq_0 zo_42 zkX10_go_0 0 rfl rfl
theorem dX10_go_1 : decode cX10_go 1 = .ok (.iload_n 2, 1) := zq_0 zo_28 zkX10_go_0 1 rfl rfl
theorem dX10_go_2 : decode cX10_go 2 = .ok (.putfield 269, 3) := zq_2 zo_181 zkX10_go_0 2 rfl rfl 1 13 rfl rfl _ rfl
theorem dX10_go_5 : decode cX10_go 5 = .ok (.aload_n 0, 1) := zq_0 zo_42 zkX10_go_0 5 rfl rfl
theorem dX10_go_6 : decode cX10_go 6 = .ok (.invokevirtual 294, 3) := zq_2 zo_182 zkX10_go_0 6 rfl rfl 1 38 rfl rfl _ rfl
theorem dX10_go_9 : decode cX10_go 9 = .ok (.iconst 0, 1) := zq_0 zo_3 zkX10_go_0 9 rfl rfl
theorem dX10_go_10 : decode cX10_go 10 = .ok (.istore 4, 2) := zq_1 zo_54 zkX10_go_0 10 rfl rfl 4 rfl
theorem dX10_go_12 : decode cX10_go 12 = .ok (.iload 4, 2) := zq_1 zo_21 zkX10_go_0 12 rfl rfl 4 rfl
theorem dX10_go_14 : decode cX10_go 14 = .ok (.aload_n 0, 1) := zq_0 zo_42 zkX10_go_0 14 rfl rfl
theorem dX10_go_15 : decode cX10_go 15 = .ok (.getfield 248, 3) := zq_2 zo_180 zkX10_go_0 15 rfl rfl 0 248 rfl rfl _ rfl
theorem dX10_go_18 : decode cX10_go 18 = .ok (.if_icmp .ge 23, 3) := zq_2s zo_162 zkX10_go_0 18 rfl rfl 0 23 rfl rfl _ (by decide +kernel)
theorem dX10_go_21 : decode cX10_go 21 = .ok (.aload_n 0, 1) := zq_0 zo_42 zkX10_go_0 21 rfl rfl
theorem dX10_go_22 : decode cX10_go 22 = .ok (.iload 4, 2) := zq_1 zo_21 zkX10_go_0 22 rfl rfl 4 rfl
theorem dX10_go_24 : decode cX10_go 24 = .ok (.aload_n 0, 1) := zq_0 zo_42 zkX10_go_0 24 rfl rfl
theorem dX10_go_25 : decode cX10_go 25 = .ok (.iload 4, 2) := zq_1 zo_21 zkX10_go_0 25 rfl rfl 4 rfl
theorem dX10_go_27 : decode cX10_go 27 = .ok (.iload_n 1, 1) := zq_0 zo_27 zkX10_go_0 27 rfl rfl
theorem dX10_go_28 : decode cX10_go 28 = .ok (.iload_n 3, 1) := zq_0 zo_29 zkX10_go_0 28 rfl rfl
theorem dX10_go_29 : decode cX10_go 29 = .ok (.invokevirtual 297, 3) := zq_2 zo_182 zkX10_go_0 29 rfl rfl 1 41 rfl rfl _ rfl
theorem zkX10_go_32 : zqc cX10_go 32 [182, 1, 45, 132, 4, 1, 167, 255, 230, 42, 180, 0, 59, 42, 180, 0, 248, 2, 79, 42, 180, 0, 65, 42, 180, 0, 248, 3, 79, 42, 182, 1, 48, 177] := zq_of 34 (by decide +kernel)
theorem dX10_go_32 : decode cX10_go 32 = .ok (.invokevirtual 301, 3) := zq_2 zo_182 zkX10_go_32 0 rfl rfl 1 45 rfl rfl _ rfl
theorem dX10_go_35 : decode cX10_go 35 = .ok (.iinc 4 1, 3) := zq_ii zo_132 zkX10_go_32 3 rfl rfl 4 1 rfl rfl _ (by decide +kernel)
theorem dX10_go_38 : decode cX10_go 38 = .ok (.goto (-26), 3) := zq_2s zo_167 zkX10_go_32 6 rfl rfl 255 230 rfl rfl _ (by decide +kernel)
theorem dX10_go_41 : decode cX10_go 41 = .ok (.aload_n 0, 1) := zq_0 zo_42 zkX10_go_32 9 rfl rfl
theorem dX10_go_42 : decode cX10_go 42 = .ok (.getfield 59, 3) := zq_2 zo_180 zkX10_go_32 10 rfl rfl 0 59 rfl rfl _ rfl
theorem dX10_go_45 : decode cX10_go 45 = .ok (.aload_n 0, 1) := zq_0 zo_42 zkX10_go_32 13 rfl rfl
theorem dX10_go_46 : decode cX10_go 46 = .ok (.getfield 248, 3) := zq_2 zo_180 zkX10_go_32 14 rfl rfl 0 248 rfl rfl _ rfl
theorem dX10_go_49 : decode cX10_go 49 = .ok (.iconst (-1), 1) := zq_0 zo_2 zkX10_go_32 17 rfl rfl
theorem dX10_go_50 : decode cX10_go 50 = .ok (.iastore, 1) := zq_0 zo_79 zkX10_go_32 18 rfl rfl
theorem dX10_go_51 : decode cX10_go 51 = .ok (.aload_n 0, 1) := zq_0 zo_42 zkX10_go_32 19 rfl rfl
theorem dX10_go_52 : decode cX10_go 52 = .ok (.getfield 65, 3) := zq_2 zo_180 zkX10_go_32 20 rfl rfl 0 65 rfl rfl _ rfl
theorem dX10_go_55 : decode cX10_go 55 = .ok (.aload_n 0, 1) := zq_0 zo_42 zkX10_go_32 23 rfl rfl
theorem dX10_go_56 : decode cX10_go 56 = .ok (.getfield 248, 3) := zq_2 zo_180 zkX10_go_32 24 rfl rfl 0 248 rfl rfl _ rfl
theorem dX10_go_59 : decode cX10_go 59 = .ok (.iconst 0, 1) := zq_0 zo_3 zkX10_go_32 27 rfl rfl
theorem dX10_go_60 : decode cX10_go 60 = .ok (.iastore, 1) := zq_0 zo_79 zkX10_go_32 28 rfl rfl
theorem dX10_go_61 : decode cX10_go 61 = .ok (.aload_n 0, 1) := zq_0 zo_42 zkX10_go_32 29 rfl rfl
theorem dX10_go_62 : decode cX10_go 62 = .ok (.invokevirtual 304, 3) := zq_2 zo_182 zkX10_go_32 30 rfl rfl 1 48 rfl rfl _ rfl
theorem zkX10_go_64 : zqc cX10_go 64 [48, 177] := zq_of 2 (by decide +kernel)
theorem dX10_go_65 : decode cX10_go 65 = .ok (.return_, 1) := zq_0 zo_177 zkX10_go_64 1 rfl rfl
theorem zkX10_everyone_0 : zqc cX10_everyone 0 [4, 42, 180, 0, 251, 120, 4, 100, 172] := zq_of 9 (by decide +kernel)
theorem dX10_everyone_0 : decode cX10_everyone 0 = .ok (.iconst 1, 1) := zq_0 zo_4 zkX10_everyone_0 0 rfl rfl
theorem dX10_everyone_1 : decode cX10_everyone 1 = .ok (.aload_n 0, 1) := zq_0 zo_42 zkX10_everyone_0 1 rfl rfl
theorem dX10_everyone_2 : decode cX10_everyone 2 = .ok (.getfield 251, 3) := zq_2 zo_180 zkX10_everyone_0 2 rfl rfl 0 251 rfl rfl _ rfl
theorem dX10_everyone_5 : decode cX10_everyone 5 = .ok (.ishl, 1) := zq_0 zo_120 zkX10_everyone_0 5 rfl rfl
theorem dX10_everyone_6 : decode cX10_everyone 6 = .ok (.iconst 1, 1) := zq_0 zo_4 zkX10_everyone_0 6 rfl rfl
theorem dX10_everyone_7 : decode cX10_everyone 7 = .ok (.isub, 1) := zq_0 zo_100 zkX10_everyone_0 7 rfl rfl
theorem dX10_everyone_8 : decode cX10_everyone 8 = .ok (.ireturn, 1) := zq_0 zo_172 zkX10_everyone_0 8 rfl rfl
theorem zkX10_layRun_0 : zqc cX10_layRun 0 [28, 2, 6, 184, 0, 103, 153, 0, 13, 42, 27, 21, 4, 182, 1, 1, 154, 0, 5, 3, 172, 42, 28, 29, 42, 182, 1, 51, 182, 1, 54, 4, 172] := zq_of 33 (by decide +kernel)
theorem dX10_layRun_0 : decode cX10_layRun 0 = .ok (.iload_n 2, 1) := zq_0 zo_28 zkX10_layRun_0 0 rfl rfl
theorem dX10_layRun_1 : decode cX10_layRun 1 = .ok (.iconst (-1), 1) := zq_0 zo_2 zkX10_layRun_0 1 rfl rfl
theorem dX10_layRun_2 : decode cX10_layRun 2 = .ok (.iconst 3, 1) := zq_0 zo_6 zkX10_layRun_0 2 rfl rfl
theorem dX10_layRun_3 : decode cX10_layRun 3 = .ok (.invokestatic 103, 3) := zq_2 zo_184 zkX10_layRun_0 3 rfl rfl 0 103 rfl rfl _ rfl
theorem dX10_layRun_6 : decode cX10_layRun 6 = .ok (.ifCond .eq 13, 3) := zq_2s zo_153 zkX10_layRun_0 6 rfl rfl 0 13 rfl rfl _ (by decide +kernel)
theorem dX10_layRun_9 : decode cX10_layRun 9 = .ok (.aload_n 0, 1) := zq_0 zo_42 zkX10_layRun_0 9 rfl rfl
theorem dX10_layRun_10 : decode cX10_layRun 10 = .ok (.iload_n 1, 1) := zq_0 zo_27 zkX10_layRun_0 10 rfl rfl
theorem dX10_layRun_11 : decode cX10_layRun 11 = .ok (.iload 4, 2) := zq_1 zo_21 zkX10_layRun_0 11 rfl rfl 4 rfl
theorem dX10_layRun_13 : decode cX10_layRun 13 = .ok (.invokevirtual 257, 3) := zq_2 zo_182 zkX10_layRun_0 13 rfl rfl 1 1 rfl rfl _ rfl
theorem dX10_layRun_16 : decode cX10_layRun 16 = .ok (.ifCond .ne 5, 3) := zq_2s zo_154 zkX10_layRun_0 16 rfl rfl 0 5 rfl rfl _ (by decide +kernel)
theorem dX10_layRun_19 : decode cX10_layRun 19 = .ok (.iconst 0, 1) := zq_0 zo_3 zkX10_layRun_0 19 rfl rfl
theorem dX10_layRun_20 : decode cX10_layRun 20 = .ok (.ireturn, 1) := zq_0 zo_172 zkX10_layRun_0 20 rfl rfl
theorem dX10_layRun_21 : decode cX10_layRun 21 = .ok (.aload_n 0, 1) := zq_0 zo_42 zkX10_layRun_0 21 rfl rfl
theorem dX10_layRun_22 : decode cX10_layRun 22 = .ok (.iload_n 2, 1) := zq_0 zo_28 zkX10_layRun_0 22 rfl rfl
theorem dX10_layRun_23 : decode cX10_layRun 23 = .ok (.iload_n 3, 1) := zq_0 zo_29 zkX10_layRun_0 23 rfl rfl
theorem dX10_layRun_24 : decode cX10_layRun 24 = .ok (.aload_n 0, 1) := zq_0 zo_42 zkX10_layRun_0 24 rfl rfl
theorem dX10_layRun_25 : decode cX10_layRun 25 = .ok (.invokevirtual 307, 3) := zq_2 zo_182 zkX10_layRun_0 25 rfl rfl 1 51 rfl rfl _ rfl
theorem dX10_layRun_28 : decode cX10_layRun 28 = .ok (.invokevirtual 310, 3) := zq_2 zo_182 zkX10_layRun_0 28 rfl rfl 1 54 rfl rfl _ rfl
theorem dX10_layRun_31 : decode cX10_layRun 31 = .ok (.iconst 1, 1) := zq_0 zo_4 zkX10_layRun_0 31 rfl rfl
theorem zkX10_layRun_32 : zqc cX10_layRun 32 [172] := zq_of 1 (by decide +kernel)
theorem dX10_layRun_32 : decode cX10_layRun 32 = .ok (.ireturn, 1) := zq_0 zo_172 zkX10_layRun_32 0 rfl rfl
theorem zkX10_gathered_0 : zqc cX10_gathered 0 [3, 60, 3, 61, 28, 42, 180, 0, 251, 162, 0, 18, 27, 42, 180, 0, 62, 28, 46, 96, 60, 132, 2, 1, 167, 255, 236, 27, 172] := zq_of 29 (by decide +kernel)
theorem dX10_gathered_0 : decode cX10_gathered 0 = .ok (.iconst 0, 1) := zq_0 zo_3 zkX10_gathered_0 0 rfl rfl
theorem dX10_gathered_1 : decode cX10_gathered 1 = .ok (.istore_n 1, 1) := zq_0 zo_60 zkX10_gathered_0 1 rfl rfl
theorem dX10_gathered_2 : decode cX10_gathered 2 = .ok (.iconst 0, 1) := zq_0 zo_3 zkX10_gathered_0 2 rfl rfl
theorem dX10_gathered_3 : decode cX10_gathered 3 = .ok (.istore_n 2, 1) := zq_0 zo_61 zkX10_gathered_0 3 rfl rfl
theorem dX10_gathered_4 : decode cX10_gathered 4 = .ok (.iload_n 2, 1) := zq_0 zo_28 zkX10_gathered_0 4 rfl rfl
theorem dX10_gathered_5 : decode cX10_gathered 5 = .ok (.aload_n 0, 1) := zq_0 zo_42 zkX10_gathered_0 5 rfl rfl
theorem dX10_gathered_6 : decode cX10_gathered 6 = .ok (.getfield 251, 3) := zq_2 zo_180 zkX10_gathered_0 6 rfl rfl 0 251 rfl rfl _ rfl
theorem dX10_gathered_9 : decode cX10_gathered 9 = .ok (.if_icmp .ge 18, 3) := zq_2s zo_162 zkX10_gathered_0 9 rfl rfl 0 18 rfl rfl _ (by decide +kernel)
theorem dX10_gathered_12 : decode cX10_gathered 12 = .ok (.iload_n 1, 1) := zq_0 zo_27 zkX10_gathered_0 12 rfl rfl
theorem dX10_gathered_13 : decode cX10_gathered 13 = .ok (.aload_n 0, 1) := zq_0 zo_42 zkX10_gathered_0 13 rfl rfl
theorem dX10_gathered_14 : decode cX10_gathered 14 = .ok (.getfield 62, 3) := zq_2 zo_180 zkX10_gathered_0 14 rfl rfl 0 62 rfl rfl _ rfl
theorem dX10_gathered_17 : decode cX10_gathered 17 = .ok (.iload_n 2, 1) := zq_0 zo_28 zkX10_gathered_0 17 rfl rfl
theorem dX10_gathered_18 : decode cX10_gathered 18 = .ok (.iaload, 1) := zq_0 zo_46 zkX10_gathered_0 18 rfl rfl
theorem dX10_gathered_19 : decode cX10_gathered 19 = .ok (.iadd, 1) := zq_0 zo_96 zkX10_gathered_0 19 rfl rfl
theorem dX10_gathered_20 : decode cX10_gathered 20 = .ok (.istore_n 1, 1) := zq_0 zo_60 zkX10_gathered_0 20 rfl rfl
theorem dX10_gathered_21 : decode cX10_gathered 21 = .ok (.iinc 2 1, 3) := zq_ii zo_132 zkX10_gathered_0 21 rfl rfl 2 1 rfl rfl _ (by decide +kernel)
theorem dX10_gathered_24 : decode cX10_gathered 24 = .ok (.goto (-20), 3) := zq_2s zo_167 zkX10_gathered_0 24 rfl rfl 255 236 rfl rfl _ (by decide +kernel)
theorem dX10_gathered_27 : decode cX10_gathered 27 = .ok (.iload_n 1, 1) := zq_0 zo_27 zkX10_gathered_0 27 rfl rfl
theorem dX10_gathered_28 : decode cX10_gathered 28 = .ok (.ireturn, 1) := zq_0 zo_172 zkX10_gathered_0 28 rfl rfl
theorem zkX10_stopsOf_0 : zqc cX10_stopsOf 0 [3, 60, 3, 61, 28, 42, 180, 0, 245, 162, 0, 29, 27, 42, 180, 0, 59, 28, 46, 2, 159, 0, 9, 4, 28, 120, 167, 0, 4, 3, 128, 60, 132, 2] := zq_of 34 (by decide +kernel)
theorem dX10_stopsOf_0 : decode cX10_stopsOf 0 = .ok (.iconst 0, 1) := zq_0 zo_3 zkX10_stopsOf_0 0 rfl rfl
theorem dX10_stopsOf_1 : decode cX10_stopsOf 1 = .ok (.istore_n 1, 1) := zq_0 zo_60 zkX10_stopsOf_0 1 rfl rfl
theorem dX10_stopsOf_2 : decode cX10_stopsOf 2 = .ok (.iconst 0, 1) := zq_0 zo_3 zkX10_stopsOf_0 2 rfl rfl
theorem dX10_stopsOf_3 : decode cX10_stopsOf 3 = .ok (.istore_n 2, 1) := zq_0 zo_61 zkX10_stopsOf_0 3 rfl rfl
theorem dX10_stopsOf_4 : decode cX10_stopsOf 4 = .ok (.iload_n 2, 1) := zq_0 zo_28 zkX10_stopsOf_0 4 rfl rfl
theorem dX10_stopsOf_5 : decode cX10_stopsOf 5 = .ok (.aload_n 0, 1) := zq_0 zo_42 zkX10_stopsOf_0 5 rfl rfl
theorem dX10_stopsOf_6 : decode cX10_stopsOf 6 = .ok (.getfield 245, 3) := zq_2 zo_180 zkX10_stopsOf_0 6 rfl rfl 0 245 rfl rfl _ rfl
theorem dX10_stopsOf_9 : decode cX10_stopsOf 9 = .ok (.if_icmp .ge 29, 3) := zq_2s zo_162 zkX10_stopsOf_0 9 rfl rfl 0 29 rfl rfl _ (by decide +kernel)
theorem dX10_stopsOf_12 : decode cX10_stopsOf 12 = .ok (.iload_n 1, 1) := zq_0 zo_27 zkX10_stopsOf_0 12 rfl rfl
theorem dX10_stopsOf_13 : decode cX10_stopsOf 13 = .ok (.aload_n 0, 1) := zq_0 zo_42 zkX10_stopsOf_0 13 rfl rfl
theorem dX10_stopsOf_14 : decode cX10_stopsOf 14 = .ok (.getfield 59, 3) := zq_2 zo_180 zkX10_stopsOf_0 14 rfl rfl 0 59 rfl rfl _ rfl
theorem dX10_stopsOf_17 : decode cX10_stopsOf 17 = .ok (.iload_n 2, 1) := zq_0 zo_28 zkX10_stopsOf_0 17 rfl rfl
theorem dX10_stopsOf_18 : decode cX10_stopsOf 18 = .ok (.iaload, 1) := zq_0 zo_46 zkX10_stopsOf_0 18 rfl rfl
theorem dX10_stopsOf_19 : decode cX10_stopsOf 19 = .ok (.iconst (-1), 1) := zq_0 zo_2 zkX10_stopsOf_0 19 rfl rfl
theorem dX10_stopsOf_20 : decode cX10_stopsOf 20 = .ok (.if_icmp .eq 9, 3) := zq_2s zo_159 zkX10_stopsOf_0 20 rfl rfl 0 9 rfl rfl _ (by decide +kernel)
theorem dX10_stopsOf_23 : decode cX10_stopsOf 23 = .ok (.iconst 1, 1) := zq_0 zo_4 zkX10_stopsOf_0 23 rfl rfl
theorem dX10_stopsOf_24 : decode cX10_stopsOf 24 = .ok (.iload_n 2, 1) := zq_0 zo_28 zkX10_stopsOf_0 24 rfl rfl
theorem dX10_stopsOf_25 : decode cX10_stopsOf 25 = .ok (.ishl, 1) := zq_0 zo_120 zkX10_stopsOf_0 25 rfl rfl
theorem dX10_stopsOf_26 : decode cX10_stopsOf 26 = .ok (.goto 4, 3) := zq_2s zo_167 zkX10_stopsOf_0 26 rfl rfl 0 4 rfl rfl _ (by decide +kernel)
theorem dX10_stopsOf_29 : decode cX10_stopsOf 29 = .ok (.iconst 0, 1) := zq_0 zo_3 zkX10_stopsOf_0 29 rfl rfl
theorem dX10_stopsOf_30 : decode cX10_stopsOf 30 = .ok (.ior, 1) := zq_0 zo_128 zkX10_stopsOf_0 30 rfl rfl
theorem dX10_stopsOf_31 : decode cX10_stopsOf 31 = .ok (.istore_n 1, 1) := zq_0 zo_60 zkX10_stopsOf_0 31 rfl rfl
theorem zkX10_stopsOf_32 : zqc cX10_stopsOf 32 [132, 2, 1, 167, 255, 225, 27, 172] := zq_of 8 (by decide +kernel)
theorem dX10_stopsOf_32 : decode cX10_stopsOf 32 = .ok (.iinc 2 1, 3) := zq_ii zo_132 zkX10_stopsOf_32 0 rfl rfl 2 1 rfl rfl _ (by decide +kernel)
theorem dX10_stopsOf_35 : decode cX10_stopsOf 35 = .ok (.goto (-31), 3) := zq_2s zo_167 zkX10_stopsOf_32 3 rfl rfl 255 225 rfl rfl _ (by decide +kernel)
theorem dX10_stopsOf_38 : decode cX10_stopsOf 38 = .ok (.iload_n 1, 1) := zq_0 zo_27 zkX10_stopsOf_32 6 rfl rfl
theorem dX10_stopsOf_39 : decode cX10_stopsOf 39 = .ok (.ireturn, 1) := zq_0 zo_172 zkX10_stopsOf_32 7 rfl rfl
theorem zkX10_run_0 : zqc cX10_run 0 [42, 3, 181, 0, 91, 42, 27, 28, 29, 21, 4, 182, 1, 57, 154, 0, 6, 16, 254, 172, 21, 5, 16, 100, 16, 100, 42, 180, 0, 248, 96, 184, 0, 103] := zq_of 34 (by decide +kernel)
theorem dX10_run_0 : decode cX10_run 0 = .ok (.aload_n 0, 1) := zq_0 zo_42 zkX10_run_0 0 rfl rfl
theorem dX10_run_1 : decode cX10_run 1 = .ok (.iconst 0, 1) := zq_0 zo_3 zkX10_run_0 1 rfl rfl
theorem dX10_run_2 : decode cX10_run 2 = .ok (.putfield 91, 3) := zq_2 zo_181 zkX10_run_0 2 rfl rfl 0 91 rfl rfl _ rfl
theorem dX10_run_5 : decode cX10_run 5 = .ok (.aload_n 0, 1) := zq_0 zo_42 zkX10_run_0 5 rfl rfl
theorem dX10_run_6 : decode cX10_run 6 = .ok (.iload_n 1, 1) := zq_0 zo_27 zkX10_run_0 6 rfl rfl
theorem dX10_run_7 : decode cX10_run 7 = .ok (.iload_n 2, 1) := zq_0 zo_28 zkX10_run_0 7 rfl rfl
theorem dX10_run_8 : decode cX10_run 8 = .ok (.iload_n 3, 1) := zq_0 zo_29 zkX10_run_0 8 rfl rfl
theorem dX10_run_9 : decode cX10_run 9 = .ok (.iload 4, 2) := zq_1 zo_21 zkX10_run_0 9 rfl rfl 4 rfl
theorem dX10_run_11 : decode cX10_run 11 = .ok (.invokevirtual 313, 3) := zq_2 zo_182 zkX10_run_0 11 rfl rfl 1 57 rfl rfl _ rfl
theorem dX10_run_14 : decode cX10_run 14 = .ok (.ifCond .ne 6, 3) := zq_2s zo_154 zkX10_run_0 14 rfl rfl 0 6 rfl rfl _ (by decide +kernel)
theorem dX10_run_17 : decode cX10_run 17 = .ok (.bipush (-2), 2) := zq_1s zo_16 zkX10_run_0 17 rfl rfl 254 rfl _ (by decide +kernel)
theorem dX10_run_19 : decode cX10_run 19 = .ok (.ireturn, 1) := zq_0 zo_172 zkX10_run_0 19 rfl rfl
theorem dX10_run_20 : decode cX10_run 20 = .ok (.iload 5, 2) := zq_1 zo_21 zkX10_run_0 20 rfl rfl 5 rfl
theorem dX10_run_22 : decode cX10_run 22 = .ok (.bipush 100, 2) := zq_1s zo_16 zkX10_run_0 22 rfl rfl 100 rfl _ (by decide +kernel)
theorem dX10_run_24 : decode cX10_run 24 = .ok (.bipush 100, 2) := zq_1s zo_16 zkX10_run_0 24 rfl rfl 100 rfl _ (by decide +kernel)
theorem dX10_run_26 : decode cX10_run 26 = .ok (.aload_n 0, 1) := zq_0 zo_42 zkX10_run_0 26 rfl rfl
theorem dX10_run_27 : decode cX10_run 27 = .ok (.getfield 248, 3) := zq_2 zo_180 zkX10_run_0 27 rfl rfl 0 248 rfl rfl _ rfl
theorem dX10_run_30 : decode cX10_run 30 = .ok (.iadd, 1) := zq_0 zo_96 zkX10_run_0 30 rfl rfl
theorem dX10_run_31 : decode cX10_run 31 = .ok (.invokestatic 103, 3) := zq_2 zo_184 zkX10_run_0 31 rfl rfl 0 103 rfl rfl _ rfl
theorem zkX10_run_32 : zqc cX10_run 32 [0, 103, 153, 0, 14, 42, 180, 0, 56, 21, 5, 16, 100, 100, 46, 172, 21, 5, 17, 0, 200, 17, 0, 199, 42, 180, 0, 251, 96, 184, 0, 103, 153, 0] := zq_of 34 (by decide +kernel)
theorem dX10_run_34 : decode cX10_run 34 = .ok (.ifCond .eq 14, 3) := zq_2s zo_153 zkX10_run_32 2 rfl rfl 0 14 rfl rfl _ (by decide +kernel)
theorem dX10_run_37 : decode cX10_run 37 = .ok (.aload_n 0, 1) := zq_0 zo_42 zkX10_run_32 5 rfl rfl
theorem dX10_run_38 : decode cX10_run 38 = .ok (.getfield 56, 3) := zq_2 zo_180 zkX10_run_32 6 rfl rfl 0 56 rfl rfl _ rfl
theorem dX10_run_41 : decode cX10_run 41 = .ok (.iload 5, 2) := zq_1 zo_21 zkX10_run_32 9 rfl rfl 5 rfl
theorem dX10_run_43 : decode cX10_run 43 = .ok (.bipush 100, 2) := zq_1s zo_16 zkX10_run_32 11 rfl rfl 100 rfl _ (by decide +kernel)
theorem dX10_run_45 : decode cX10_run 45 = .ok (.isub, 1) := zq_0 zo_100 zkX10_run_32 13 rfl rfl
theorem dX10_run_46 : decode cX10_run 46 = .ok (.iaload, 1) := zq_0 zo_46 zkX10_run_32 14 rfl rfl
theorem dX10_run_47 : decode cX10_run 47 = .ok (.ireturn, 1) := zq_0 zo_172 zkX10_run_32 15 rfl rfl
theorem dX10_run_48 : decode cX10_run 48 = .ok (.iload 5, 2) := zq_1 zo_21 zkX10_run_32 16 rfl rfl 5 rfl
theorem dX10_run_50 : decode cX10_run 50 = .ok (.sipush 200, 3) := zq_2s zo_17 zkX10_run_32 18 rfl rfl 0 200 rfl rfl _ (by decide +kernel)
theorem dX10_run_53 : decode cX10_run 53 = .ok (.sipush 199, 3) := zq_2s zo_17 zkX10_run_32 21 rfl rfl 0 199 rfl rfl _ (by decide +kernel)
theorem dX10_run_56 : decode cX10_run 56 = .ok (.aload_n 0, 1) := zq_0 zo_42 zkX10_run_32 24 rfl rfl
theorem dX10_run_57 : decode cX10_run 57 = .ok (.getfield 251, 3) := zq_2 zo_180 zkX10_run_32 25 rfl rfl 0 251 rfl rfl _ rfl
theorem dX10_run_60 : decode cX10_run 60 = .ok (.iadd, 1) := zq_0 zo_96 zkX10_run_32 28 rfl rfl
theorem dX10_run_61 : decode cX10_run 61 = .ok (.invokestatic 103, 3) := zq_2 zo_184 zkX10_run_32 29 rfl rfl 0 103 rfl rfl _ rfl
theorem zkX10_run_64 : zqc cX10_run 64 [153, 0, 15, 42, 180, 0, 68, 21, 5, 17, 0, 200, 100, 46, 172, 21, 5, 170, 0, 0, 0, 0, 0, 95, 0, 0, 0, 0, 0, 0, 0, 7, 0, 0] := zq_of 34 (by decide +kernel)
theorem dX10_run_64 : decode cX10_run 64 = .ok (.ifCond .eq 15, 3) := zq_2s zo_153 zkX10_run_64 0 rfl rfl 0 15 rfl rfl _ (by decide +kernel)
theorem dX10_run_67 : decode cX10_run 67 = .ok (.aload_n 0, 1) := zq_0 zo_42 zkX10_run_64 3 rfl rfl
theorem dX10_run_68 : decode cX10_run 68 = .ok (.getfield 68, 3) := zq_2 zo_180 zkX10_run_64 4 rfl rfl 0 68 rfl rfl _ rfl
theorem dX10_run_71 : decode cX10_run 71 = .ok (.iload 5, 2) := zq_1 zo_21 zkX10_run_64 7 rfl rfl 5 rfl
theorem dX10_run_73 : decode cX10_run 73 = .ok (.sipush 200, 3) := zq_2s zo_17 zkX10_run_64 9 rfl rfl 0 200 rfl rfl _ (by decide +kernel)
theorem dX10_run_76 : decode cX10_run 76 = .ok (.isub, 1) := zq_0 zo_100 zkX10_run_64 12 rfl rfl
theorem dX10_run_77 : decode cX10_run 77 = .ok (.iaload, 1) := zq_0 zo_46 zkX10_run_64 13 rfl rfl
theorem dX10_run_78 : decode cX10_run 78 = .ok (.ireturn, 1) := zq_0 zo_172 zkX10_run_64 14 rfl rfl
theorem dX10_run_79 : decode cX10_run 79 = .ok (.iload 5, 2) := zq_1 zo_21 zkX10_run_64 15 rfl rfl 5 rfl
theorem dX10_run_81 : decode cX10_run 81 = .ok (.tableswitch 95 0 7 #[47, 57, 62, 70, 75, 80, 85, 90], 47) := by decide +kernel
theorem zkX10_run_128 : zqc cX10_run 128 [42, 180, 0, 56, 42, 180, 0, 248, 46, 172, 42, 182, 1, 61, 172, 42, 182, 1, 64, 184, 1, 67, 172, 42, 180, 1, 20, 172, 42, 180, 1, 29, 172, 42] := zq_of 34 (by decide +kernel)
theorem dX10_run_128 : decode cX10_run 128 = .ok (.aload_n 0, 1) := zq_0 zo_42 zkX10_run_128 0 rfl rfl
theorem dX10_run_129 : decode cX10_run 129 = .ok (.getfield 56, 3) := zq_2 zo_180 zkX10_run_128 1 rfl rfl 0 56 rfl rfl _ rfl
theorem dX10_run_132 : decode cX10_run 132 = .ok (.aload_n 0, 1) := zq_0 zo_42 zkX10_run_128 4 rfl rfl
theorem dX10_run_133 : decode cX10_run 133 = .ok (.getfield 248, 3) := zq_2 zo_180 zkX10_run_128 5 rfl rfl 0 248 rfl rfl _ rfl
theorem dX10_run_136 : decode cX10_run 136 = .ok (.iaload, 1) := zq_0 zo_46 zkX10_run_128 8 rfl rfl
theorem dX10_run_137 : decode cX10_run 137 = .ok (.ireturn, 1) := zq_0 zo_172 zkX10_run_128 9 rfl rfl
theorem dX10_run_138 : decode cX10_run 138 = .ok (.aload_n 0, 1) := zq_0 zo_42 zkX10_run_128 10 rfl rfl
theorem dX10_run_139 : decode cX10_run 139 = .ok (.invokevirtual 317, 3) := zq_2 zo_182 zkX10_run_128 11 rfl rfl 1 61 rfl rfl _ rfl
theorem dX10_run_142 : decode cX10_run 142 = .ok (.ireturn, 1) := zq_0 zo_172 zkX10_run_128 14 rfl rfl
theorem dX10_run_143 : decode cX10_run 143 = .ok (.aload_n 0, 1) := zq_0 zo_42 zkX10_run_128 15 rfl rfl
theorem dX10_run_144 : decode cX10_run 144 = .ok (.invokevirtual 320, 3) := zq_2 zo_182 zkX10_run_128 16 rfl rfl 1 64 rfl rfl _ rfl
theorem dX10_run_147 : decode cX10_run 147 = .ok (.invokestatic 323, 3) := zq_2 zo_184 zkX10_run_128 19 rfl rfl 1 67 rfl rfl _ rfl
theorem dX10_run_150 : decode cX10_run 150 = .ok (.ireturn, 1) := zq_0 zo_172 zkX10_run_128 22 rfl rfl
theorem dX10_run_151 : decode cX10_run 151 = .ok (.aload_n 0, 1) := zq_0 zo_42 zkX10_run_128 23 rfl rfl
theorem dX10_run_152 : decode cX10_run 152 = .ok (.getfield 276, 3) := zq_2 zo_180 zkX10_run_128 24 rfl rfl 1 20 rfl rfl _ rfl
theorem dX10_run_155 : decode cX10_run 155 = .ok (.ireturn, 1) := zq_0 zo_172 zkX10_run_128 27 rfl rfl
theorem dX10_run_156 : decode cX10_run 156 = .ok (.aload_n 0, 1) := zq_0 zo_42 zkX10_run_128 28 rfl rfl
theorem dX10_run_157 : decode cX10_run 157 = .ok (.getfield 285, 3) := zq_2 zo_180 zkX10_run_128 29 rfl rfl 1 29 rfl rfl _ rfl
theorem zkX10_run_160 : zqc cX10_run 160 [172, 42, 180, 1, 32, 172, 42, 180, 1, 35, 172, 42, 182, 1, 64, 172, 16, 254, 172] := zq_of 19 (by decide +kernel)
theorem dX10_run_160 : decode cX10_run 160 = .ok (.ireturn, 1) := zq_0 zo_172 zkX10_run_160 0 rfl rfl
theorem dX10_run_161 : decode cX10_run 161 = .ok (.aload_n 0, 1) := zq_0 zo_42 zkX10_run_160 1 rfl rfl
theorem dX10_run_162 : decode cX10_run 162 = .ok (.getfield 288, 3) := zq_2 zo_180 zkX10_run_160 2 rfl rfl 1 32 rfl rfl _ rfl
theorem dX10_run_165 : decode cX10_run 165 = .ok (.ireturn, 1) := zq_0 zo_172 zkX10_run_160 5 rfl rfl
theorem dX10_run_166 : decode cX10_run 166 = .ok (.aload_n 0, 1) := zq_0 zo_42 zkX10_run_160 6 rfl rfl
theorem dX10_run_167 : decode cX10_run 167 = .ok (.getfield 291, 3) := zq_2 zo_180 zkX10_run_160 7 rfl rfl 1 35 rfl rfl _ rfl
theorem dX10_run_170 : decode cX10_run 170 = .ok (.ireturn, 1) := zq_0 zo_172 zkX10_run_160 10 rfl rfl
theorem dX10_run_171 : decode cX10_run 171 = .ok (.aload_n 0, 1) := zq_0 zo_42 zkX10_run_160 11 rfl rfl
theorem dX10_run_172 : decode cX10_run 172 = .ok (.invokevirtual 320, 3) := zq_2 zo_182 zkX10_run_160 12 rfl rfl 1 64 rfl rfl _ rfl
theorem dX10_run_175 : decode cX10_run 175 = .ok (.ireturn, 1) := zq_0 zo_172 zkX10_run_160 15 rfl rfl
theorem dX10_run_176 : decode cX10_run 176 = .ok (.bipush (-2), 2) := zq_1s zo_16 zkX10_run_160 16 rfl rfl 254 rfl _ (by decide +kernel)
theorem dX10_run_178 : decode cX10_run 178 = .ok (.ireturn, 1) := zq_0 zo_172 zkX10_run_160 18 rfl rfl
theorem zkX10_who_0 : zqc cX10_who 0 [42, 3, 181, 0, 91, 42, 27, 28, 29, 21, 4, 182, 1, 57, 153, 0, 22, 42, 21, 5, 182, 1, 4, 153, 0, 13, 42, 180, 0, 59, 21, 5, 46, 167] := zq_of 34 (by decide +kernel)
theorem dX10_who_0 : decode cX10_who 0 = .ok (.aload_n 0, 1) := zq_0 zo_42 zkX10_who_0 0 rfl rfl
theorem dX10_who_1 : decode cX10_who 1 = .ok (.iconst 0, 1) := zq_0 zo_3 zkX10_who_0 1 rfl rfl
theorem dX10_who_2 : decode cX10_who 2 = .ok (.putfield 91, 3) := zq_2 zo_181 zkX10_who_0 2 rfl rfl 0 91 rfl rfl _ rfl
theorem dX10_who_5 : decode cX10_who 5 = .ok (.aload_n 0, 1) := zq_0 zo_42 zkX10_who_0 5 rfl rfl
theorem dX10_who_6 : decode cX10_who 6 = .ok (.iload_n 1, 1) := zq_0 zo_27 zkX10_who_0 6 rfl rfl
theorem dX10_who_7 : decode cX10_who 7 = .ok (.iload_n 2, 1) := zq_0 zo_28 zkX10_who_0 7 rfl rfl
theorem dX10_who_8 : decode cX10_who 8 = .ok (.iload_n 3, 1) := zq_0 zo_29 zkX10_who_0 8 rfl rfl
theorem dX10_who_9 : decode cX10_who 9 = .ok (.iload 4, 2) := zq_1 zo_21 zkX10_who_0 9 rfl rfl 4 rfl
theorem dX10_who_11 : decode cX10_who 11 = .ok (.invokevirtual 313, 3) := zq_2 zo_182 zkX10_who_0 11 rfl rfl 1 57 rfl rfl _ rfl
theorem dX10_who_14 : decode cX10_who 14 = .ok (.ifCond .eq 22, 3) := zq_2s zo_153 zkX10_who_0 14 rfl rfl 0 22 rfl rfl _ (by decide +kernel)
theorem dX10_who_17 : decode cX10_who 17 = .ok (.aload_n 0, 1) := zq_0 zo_42 zkX10_who_0 17 rfl rfl
theorem dX10_who_18 : decode cX10_who 18 = .ok (.iload 5, 2) := zq_1 zo_21 zkX10_who_0 18 rfl rfl 5 rfl
theorem dX10_who_20 : decode cX10_who 20 = .ok (.invokevirtual 260, 3) := zq_2 zo_182 zkX10_who_0 20 rfl rfl 1 4 rfl rfl _ rfl
theorem dX10_who_23 : decode cX10_who 23 = .ok (.ifCond .eq 13, 3) := zq_2s zo_153 zkX10_who_0 23 rfl rfl 0 13 rfl rfl _ (by decide +kernel)
theorem dX10_who_26 : decode cX10_who 26 = .ok (.aload_n 0, 1) := zq_0 zo_42 zkX10_who_0 26 rfl rfl
theorem dX10_who_27 : decode cX10_who 27 = .ok (.getfield 59, 3) := zq_2 zo_180 zkX10_who_0 27 rfl rfl 0 59 rfl rfl _ rfl
theorem dX10_who_30 : decode cX10_who 30 = .ok (.iload 5, 2) := zq_1 zo_21 zkX10_who_0 30 rfl rfl 5 rfl
theorem zkX10_who_32 : zqc cX10_who 32 [46, 167, 0, 5, 16, 254, 172] := zq_of 7 (by decide +kernel)
theorem dX10_who_32 : decode cX10_who 32 = .ok (.iaload, 1) := zq_0 zo_46 zkX10_who_32 0 rfl rfl
theorem dX10_who_33 : decode cX10_who 33 = .ok (.goto 5, 3) := zq_2s zo_167 zkX10_who_32 1 rfl rfl 0 5 rfl rfl _ (by decide +kernel)
theorem dX10_who_36 : decode cX10_who 36 = .ok (.bipush (-2), 2) := zq_1s zo_16 zkX10_who_32 4 rfl rfl 254 rfl _ (by decide +kernel)
theorem dX10_who_38 : decode cX10_who 38 = .ok (.ireturn, 1) := zq_0 zo_172 zkX10_who_32 6 rfl rfl
theorem zkX10_late_0 : zqc cX10_late 0 [42, 3, 181, 0, 91, 42, 27, 28, 29, 21, 4, 182, 1, 57, 153, 0, 23, 42, 21, 5, 182, 1, 4, 153, 0, 14, 42, 21, 5, 7, 182, 0, 242, 2] := zq_of 34 (by decide +kernel)
theorem dX10_late_0 : decode cX10_late 0 = .ok (.aload_n 0, 1) := zq_0 zo_42 zkX10_late_0 0 rfl rfl
theorem dX10_late_1 : decode cX10_late 1 = .ok (.iconst 0, 1) := zq_0 zo_3 zkX10_late_0 1 rfl rfl
theorem dX10_late_2 : decode cX10_late 2 = .ok (.putfield 91, 3) := zq_2 zo_181 zkX10_late_0 2 rfl rfl 0 91 rfl rfl _ rfl
theorem dX10_late_5 : decode cX10_late 5 = .ok (.aload_n 0, 1) := zq_0 zo_42 zkX10_late_0 5 rfl rfl
theorem dX10_late_6 : decode cX10_late 6 = .ok (.iload_n 1, 1) := zq_0 zo_27 zkX10_late_0 6 rfl rfl
theorem dX10_late_7 : decode cX10_late 7 = .ok (.iload_n 2, 1) := zq_0 zo_28 zkX10_late_0 7 rfl rfl
theorem dX10_late_8 : decode cX10_late 8 = .ok (.iload_n 3, 1) := zq_0 zo_29 zkX10_late_0 8 rfl rfl
theorem dX10_late_9 : decode cX10_late 9 = .ok (.iload 4, 2) := zq_1 zo_21 zkX10_late_0 9 rfl rfl 4 rfl
theorem dX10_late_11 : decode cX10_late 11 = .ok (.invokevirtual 313, 3) := zq_2 zo_182 zkX10_late_0 11 rfl rfl 1 57 rfl rfl _ rfl
theorem dX10_late_14 : decode cX10_late 14 = .ok (.ifCond .eq 23, 3) := zq_2s zo_153 zkX10_late_0 14 rfl rfl 0 23 rfl rfl _ (by decide +kernel)
theorem dX10_late_17 : decode cX10_late 17 = .ok (.aload_n 0, 1) := zq_0 zo_42 zkX10_late_0 17 rfl rfl
theorem dX10_late_18 : decode cX10_late 18 = .ok (.iload 5, 2) := zq_1 zo_21 zkX10_late_0 18 rfl rfl 5 rfl
theorem dX10_late_20 : decode cX10_late 20 = .ok (.invokevirtual 260, 3) := zq_2 zo_182 zkX10_late_0 20 rfl rfl 1 4 rfl rfl _ rfl
theorem dX10_late_23 : decode cX10_late 23 = .ok (.ifCond .eq 14, 3) := zq_2s zo_153 zkX10_late_0 23 rfl rfl 0 14 rfl rfl _ (by decide +kernel)
theorem dX10_late_26 : decode cX10_late 26 = .ok (.aload_n 0, 1) := zq_0 zo_42 zkX10_late_0 26 rfl rfl
theorem dX10_late_27 : decode cX10_late 27 = .ok (.iload 5, 2) := zq_1 zo_21 zkX10_late_0 27 rfl rfl 5 rfl
theorem dX10_late_29 : decode cX10_late 29 = .ok (.iconst 4, 1) := zq_0 zo_7 zkX10_late_0 29 rfl rfl
theorem dX10_late_30 : decode cX10_late 30 = .ok (.invokevirtual 242, 3) := zq_2 zo_182 zkX10_late_0 30 rfl rfl 0 242 rfl rfl _ rfl
theorem zkX10_late_32 : zqc cX10_late 32 [242, 2, 160, 0, 5, 2, 172, 3, 42, 180, 0, 56, 21, 5, 46, 42, 21, 5, 7, 182, 0, 242, 100, 184, 0, 160, 172] := zq_of 27 (by decide +kernel)
theorem dX10_late_33 : decode cX10_late 33 = .ok (.iconst (-1), 1) := zq_0 zo_2 zkX10_late_32 1 rfl rfl
theorem dX10_late_34 : decode cX10_late 34 = .ok (.if_icmp .ne 5, 3) := zq_2s zo_160 zkX10_late_32 2 rfl rfl 0 5 rfl rfl _ (by decide +kernel)
theorem dX10_late_37 : decode cX10_late 37 = .ok (.iconst (-1), 1) := zq_0 zo_2 zkX10_late_32 5 rfl rfl
theorem dX10_late_38 : decode cX10_late 38 = .ok (.ireturn, 1) := zq_0 zo_172 zkX10_late_32 6 rfl rfl
theorem dX10_late_39 : decode cX10_late 39 = .ok (.iconst 0, 1) := zq_0 zo_3 zkX10_late_32 7 rfl rfl
theorem dX10_late_40 : decode cX10_late 40 = .ok (.aload_n 0, 1) := zq_0 zo_42 zkX10_late_32 8 rfl rfl
theorem dX10_late_41 : decode cX10_late 41 = .ok (.getfield 56, 3) := zq_2 zo_180 zkX10_late_32 9 rfl rfl 0 56 rfl rfl _ rfl
theorem dX10_late_44 : decode cX10_late 44 = .ok (.iload 5, 2) := zq_1 zo_21 zkX10_late_32 12 rfl rfl 5 rfl
theorem dX10_late_46 : decode cX10_late 46 = .ok (.iaload, 1) := zq_0 zo_46 zkX10_late_32 14 rfl rfl
theorem dX10_late_47 : decode cX10_late 47 = .ok (.aload_n 0, 1) := zq_0 zo_42 zkX10_late_32 15 rfl rfl
theorem dX10_late_48 : decode cX10_late 48 = .ok (.iload 5, 2) := zq_1 zo_21 zkX10_late_32 16 rfl rfl 5 rfl
theorem dX10_late_50 : decode cX10_late 50 = .ok (.iconst 4, 1) := zq_0 zo_7 zkX10_late_32 18 rfl rfl
theorem dX10_late_51 : decode cX10_late 51 = .ok (.invokevirtual 242, 3) := zq_2 zo_182 zkX10_late_32 19 rfl rfl 0 242 rfl rfl _ rfl
theorem dX10_late_54 : decode cX10_late 54 = .ok (.isub, 1) := zq_0 zo_100 zkX10_late_32 22 rfl rfl
theorem dX10_late_55 : decode cX10_late 55 = .ok (.invokestatic 160, 3) := zq_2 zo_184 zkX10_late_32 23 rfl rfl 0 160 rfl rfl _ rfl
theorem dX10_late_58 : decode cX10_late 58 = .ok (.ireturn, 1) := zq_0 zo_172 zkX10_late_32 26 rfl rfl
theorem zkX10_poundsOf_0 : zqc cX10_poundsOf 0 [3, 61, 3, 62, 29, 42, 180, 0, 248, 162, 0, 30, 28, 27, 29, 184, 0, 95, 153, 0, 12, 42, 180, 0, 53, 29, 46, 167, 0, 4, 3, 96, 61, 132] := zq_of 34 (by decide +kernel)
theorem dX10_poundsOf_0 : decode cX10_poundsOf 0 = .ok (.iconst 0, 1) := zq_0 zo_3 zkX10_poundsOf_0 0 rfl rfl
theorem dX10_poundsOf_1 : decode cX10_poundsOf 1 = .ok (.istore_n 2, 1) := zq_0 zo_61 zkX10_poundsOf_0 1 rfl rfl
theorem dX10_poundsOf_2 : decode cX10_poundsOf 2 = .ok (.iconst 0, 1) := zq_0 zo_3 zkX10_poundsOf_0 2 rfl rfl
theorem dX10_poundsOf_3 : decode cX10_poundsOf 3 = .ok (.istore_n 3, 1) := zq_0 zo_62 zkX10_poundsOf_0 3 rfl rfl
theorem dX10_poundsOf_4 : decode cX10_poundsOf 4 = .ok (.iload_n 3, 1) := zq_0 zo_29 zkX10_poundsOf_0 4 rfl rfl
theorem dX10_poundsOf_5 : decode cX10_poundsOf 5 = .ok (.aload_n 0, 1) := zq_0 zo_42 zkX10_poundsOf_0 5 rfl rfl
theorem dX10_poundsOf_6 : decode cX10_poundsOf 6 = .ok (.getfield 248, 3) := zq_2 zo_180 zkX10_poundsOf_0 6 rfl rfl 0 248 rfl rfl _ rfl
theorem dX10_poundsOf_9 : decode cX10_poundsOf 9 = .ok (.if_icmp .ge 30, 3) := zq_2s zo_162 zkX10_poundsOf_0 9 rfl rfl 0 30 rfl rfl _ (by decide +kernel)
theorem dX10_poundsOf_12 : decode cX10_poundsOf 12 = .ok (.iload_n 2, 1) := zq_0 zo_28 zkX10_poundsOf_0 12 rfl rfl
theorem dX10_poundsOf_13 : decode cX10_poundsOf 13 = .ok (.iload_n 1, 1) := zq_0 zo_27 zkX10_poundsOf_0 13 rfl rfl
theorem dX10_poundsOf_14 : decode cX10_poundsOf 14 = .ok (.iload_n 3, 1) := zq_0 zo_29 zkX10_poundsOf_0 14 rfl rfl
theorem dX10_poundsOf_15 : decode cX10_poundsOf 15 = .ok (.invokestatic 95, 3) := zq_2 zo_184 zkX10_poundsOf_0 15 rfl rfl 0 95 rfl rfl _ rfl
theorem dX10_poundsOf_18 : decode cX10_poundsOf 18 = .ok (.ifCond .eq 12, 3) := zq_2s zo_153 zkX10_poundsOf_0 18 rfl rfl 0 12 rfl rfl _ (by decide +kernel)
theorem dX10_poundsOf_21 : decode cX10_poundsOf 21 = .ok (.aload_n 0, 1) := zq_0 zo_42 zkX10_poundsOf_0 21 rfl rfl
theorem dX10_poundsOf_22 : decode cX10_poundsOf 22 = .ok (.getfield 53, 3) := zq_2 zo_180 zkX10_poundsOf_0 22 rfl rfl 0 53 rfl rfl _ rfl
theorem dX10_poundsOf_25 : decode cX10_poundsOf 25 = .ok (.iload_n 3, 1) := zq_0 zo_29 zkX10_poundsOf_0 25 rfl rfl
theorem dX10_poundsOf_26 : decode cX10_poundsOf 26 = .ok (.iaload, 1) := zq_0 zo_46 zkX10_poundsOf_0 26 rfl rfl
theorem dX10_poundsOf_27 : decode cX10_poundsOf 27 = .ok (.goto 4, 3) := zq_2s zo_167 zkX10_poundsOf_0 27 rfl rfl 0 4 rfl rfl _ (by decide +kernel)
theorem dX10_poundsOf_30 : decode cX10_poundsOf 30 = .ok (.iconst 0, 1) := zq_0 zo_3 zkX10_poundsOf_0 30 rfl rfl
theorem dX10_poundsOf_31 : decode cX10_poundsOf 31 = .ok (.iadd, 1) := zq_0 zo_96 zkX10_poundsOf_0 31 rfl rfl
theorem zkX10_poundsOf_32 : zqc cX10_poundsOf 32 [61, 132, 3, 1, 167, 255, 224, 28, 172] := zq_of 9 (by decide +kernel)
theorem dX10_poundsOf_32 : decode cX10_poundsOf 32 = .ok (.istore_n 2, 1) := zq_0 zo_61 zkX10_poundsOf_32 0 rfl rfl
theorem dX10_poundsOf_33 : decode cX10_poundsOf 33 = .ok (.iinc 3 1, 3) := zq_ii zo_132 zkX10_poundsOf_32 1 rfl rfl 3 1 rfl rfl _ (by decide +kernel)
theorem dX10_poundsOf_36 : decode cX10_poundsOf 36 = .ok (.goto (-32), 3) := zq_2s zo_167 zkX10_poundsOf_32 4 rfl rfl 255 224 rfl rfl _ (by decide +kernel)
theorem dX10_poundsOf_39 : decode cX10_poundsOf 39 = .ok (.iload_n 2, 1) := zq_0 zo_28 zkX10_poundsOf_32 7 rfl rfl
theorem dX10_poundsOf_40 : decode cX10_poundsOf 40 = .ok (.ireturn, 1) := zq_0 zo_172 zkX10_poundsOf_32 8 rfl rfl
theorem zkX10_costsOf_0 : zqc cX10_costsOf 0 [3, 61, 3, 62, 29, 42, 180, 0, 248, 162, 0, 30, 28, 27, 29, 184, 0, 95, 153, 0, 12, 42, 180, 0, 50, 29, 46, 167, 0, 4, 3, 96, 61, 132] := zq_of 34 (by decide +kernel)
theorem dX10_costsOf_0 : decode cX10_costsOf 0 = .ok (.iconst 0, 1) := zq_0 zo_3 zkX10_costsOf_0 0 rfl rfl
theorem dX10_costsOf_1 : decode cX10_costsOf 1 = .ok (.istore_n 2, 1) := zq_0 zo_61 zkX10_costsOf_0 1 rfl rfl
theorem dX10_costsOf_2 : decode cX10_costsOf 2 = .ok (.iconst 0, 1) := zq_0 zo_3 zkX10_costsOf_0 2 rfl rfl
theorem dX10_costsOf_3 : decode cX10_costsOf 3 = .ok (.istore_n 3, 1) := zq_0 zo_62 zkX10_costsOf_0 3 rfl rfl
theorem dX10_costsOf_4 : decode cX10_costsOf 4 = .ok (.iload_n 3, 1) := zq_0 zo_29 zkX10_costsOf_0 4 rfl rfl
theorem dX10_costsOf_5 : decode cX10_costsOf 5 = .ok (.aload_n 0, 1) := zq_0 zo_42 zkX10_costsOf_0 5 rfl rfl
theorem dX10_costsOf_6 : decode cX10_costsOf 6 = .ok (.getfield 248, 3) := zq_2 zo_180 zkX10_costsOf_0 6 rfl rfl 0 248 rfl rfl _ rfl
theorem dX10_costsOf_9 : decode cX10_costsOf 9 = .ok (.if_icmp .ge 30, 3) := zq_2s zo_162 zkX10_costsOf_0 9 rfl rfl 0 30 rfl rfl _ (by decide +kernel)
theorem dX10_costsOf_12 : decode cX10_costsOf 12 = .ok (.iload_n 2, 1) := zq_0 zo_28 zkX10_costsOf_0 12 rfl rfl
theorem dX10_costsOf_13 : decode cX10_costsOf 13 = .ok (.iload_n 1, 1) := zq_0 zo_27 zkX10_costsOf_0 13 rfl rfl
theorem dX10_costsOf_14 : decode cX10_costsOf 14 = .ok (.iload_n 3, 1) := zq_0 zo_29 zkX10_costsOf_0 14 rfl rfl
theorem dX10_costsOf_15 : decode cX10_costsOf 15 = .ok (.invokestatic 95, 3) := zq_2 zo_184 zkX10_costsOf_0 15 rfl rfl 0 95 rfl rfl _ rfl
theorem dX10_costsOf_18 : decode cX10_costsOf 18 = .ok (.ifCond .eq 12, 3) := zq_2s zo_153 zkX10_costsOf_0 18 rfl rfl 0 12 rfl rfl _ (by decide +kernel)
theorem dX10_costsOf_21 : decode cX10_costsOf 21 = .ok (.aload_n 0, 1) := zq_0 zo_42 zkX10_costsOf_0 21 rfl rfl
theorem dX10_costsOf_22 : decode cX10_costsOf 22 = .ok (.getfield 50, 3) := zq_2 zo_180 zkX10_costsOf_0 22 rfl rfl 0 50 rfl rfl _ rfl
theorem dX10_costsOf_25 : decode cX10_costsOf 25 = .ok (.iload_n 3, 1) := zq_0 zo_29 zkX10_costsOf_0 25 rfl rfl
theorem dX10_costsOf_26 : decode cX10_costsOf 26 = .ok (.iaload, 1) := zq_0 zo_46 zkX10_costsOf_0 26 rfl rfl
theorem dX10_costsOf_27 : decode cX10_costsOf 27 = .ok (.goto 4, 3) := zq_2s zo_167 zkX10_costsOf_0 27 rfl rfl 0 4 rfl rfl _ (by decide +kernel)
theorem dX10_costsOf_30 : decode cX10_costsOf 30 = .ok (.iconst 0, 1) := zq_0 zo_3 zkX10_costsOf_0 30 rfl rfl
theorem dX10_costsOf_31 : decode cX10_costsOf 31 = .ok (.iadd, 1) := zq_0 zo_96 zkX10_costsOf_0 31 rfl rfl
theorem zkX10_costsOf_32 : zqc cX10_costsOf 32 [61, 132, 3, 1, 167, 255, 224, 28, 172] := zq_of 9 (by decide +kernel)
theorem dX10_costsOf_32 : decode cX10_costsOf 32 = .ok (.istore_n 2, 1) := zq_0 zo_61 zkX10_costsOf_32 0 rfl rfl
theorem dX10_costsOf_33 : decode cX10_costsOf 33 = .ok (.iinc 3 1, 3) := zq_ii zo_132 zkX10_costsOf_32 1 rfl rfl 3 1 rfl rfl _ (by decide +kernel)
theorem dX10_costsOf_36 : decode cX10_costsOf 36 = .ok (.goto (-32), 3) := zq_2s zo_167 zkX10_costsOf_32 4 rfl rfl 255 224 rfl rfl _ (by decide +kernel)
theorem dX10_costsOf_39 : decode cX10_costsOf 39 = .ok (.iload_n 2, 1) := zq_0 zo_28 zkX10_costsOf_32 7 rfl rfl
theorem dX10_costsOf_40 : decode cX10_costsOf 40 = .ok (.ireturn, 1) := zq_0 zo_172 zkX10_costsOf_32 8 rfl rfl
theorem zkX10_bearing_0 : zqc cX10_bearing 0 [3, 60, 3, 61, 28, 42, 180, 0, 248, 162, 0, 28, 27, 42, 180, 0, 53, 28, 46, 158, 0, 9, 4, 28, 120, 167, 0, 4, 3, 128, 60, 132, 2, 1] := zq_of 34 (by decide +kernel)
theorem dX10_bearing_0 : decode cX10_bearing 0 = .ok (.iconst 0, 1) := zq_0 zo_3 zkX10_bearing_0 0 rfl rfl
theorem dX10_bearing_1 : decode cX10_bearing 1 = .ok (.istore_n 1, 1) := zq_0 zo_60 zkX10_bearing_0 1 rfl rfl
theorem dX10_bearing_2 : decode cX10_bearing 2 = .ok (.iconst 0, 1) := zq_0 zo_3 zkX10_bearing_0 2 rfl rfl
theorem dX10_bearing_3 : decode cX10_bearing 3 = .ok (.istore_n 2, 1) := zq_0 zo_61 zkX10_bearing_0 3 rfl rfl
theorem dX10_bearing_4 : decode cX10_bearing 4 = .ok (.iload_n 2, 1) := zq_0 zo_28 zkX10_bearing_0 4 rfl rfl
theorem dX10_bearing_5 : decode cX10_bearing 5 = .ok (.aload_n 0, 1) := zq_0 zo_42 zkX10_bearing_0 5 rfl rfl
theorem dX10_bearing_6 : decode cX10_bearing 6 = .ok (.getfield 248, 3) := zq_2 zo_180 zkX10_bearing_0 6 rfl rfl 0 248 rfl rfl _ rfl
theorem dX10_bearing_9 : decode cX10_bearing 9 = .ok (.if_icmp .ge 28, 3) := zq_2s zo_162 zkX10_bearing_0 9 rfl rfl 0 28 rfl rfl _ (by decide +kernel)
theorem dX10_bearing_12 : decode cX10_bearing 12 = .ok (.iload_n 1, 1) := zq_0 zo_27 zkX10_bearing_0 12 rfl rfl
theorem dX10_bearing_13 : decode cX10_bearing 13 = .ok (.aload_n 0, 1) := zq_0 zo_42 zkX10_bearing_0 13 rfl rfl
theorem dX10_bearing_14 : decode cX10_bearing 14 = .ok (.getfield 53, 3) := zq_2 zo_180 zkX10_bearing_0 14 rfl rfl 0 53 rfl rfl _ rfl
theorem dX10_bearing_17 : decode cX10_bearing 17 = .ok (.iload_n 2, 1) := zq_0 zo_28 zkX10_bearing_0 17 rfl rfl
theorem dX10_bearing_18 : decode cX10_bearing 18 = .ok (.iaload, 1) := zq_0 zo_46 zkX10_bearing_0 18 rfl rfl
theorem dX10_bearing_19 : decode cX10_bearing 19 = .ok (.ifCond .le 9, 3) := zq_2s zo_158 zkX10_bearing_0 19 rfl rfl 0 9 rfl rfl _ (by decide +kernel)
theorem dX10_bearing_22 : decode cX10_bearing 22 = .ok (.iconst 1, 1) := zq_0 zo_4 zkX10_bearing_0 22 rfl rfl
theorem dX10_bearing_23 : decode cX10_bearing 23 = .ok (.iload_n 2, 1) := zq_0 zo_28 zkX10_bearing_0 23 rfl rfl
theorem dX10_bearing_24 : decode cX10_bearing 24 = .ok (.ishl, 1) := zq_0 zo_120 zkX10_bearing_0 24 rfl rfl
theorem dX10_bearing_25 : decode cX10_bearing 25 = .ok (.goto 4, 3) := zq_2s zo_167 zkX10_bearing_0 25 rfl rfl 0 4 rfl rfl _ (by decide +kernel)
theorem dX10_bearing_28 : decode cX10_bearing 28 = .ok (.iconst 0, 1) := zq_0 zo_3 zkX10_bearing_0 28 rfl rfl
theorem dX10_bearing_29 : decode cX10_bearing 29 = .ok (.ior, 1) := zq_0 zo_128 zkX10_bearing_0 29 rfl rfl
theorem dX10_bearing_30 : decode cX10_bearing 30 = .ok (.istore_n 1, 1) := zq_0 zo_60 zkX10_bearing_0 30 rfl rfl
theorem dX10_bearing_31 : decode cX10_bearing 31 = .ok (.iinc 2 1, 3) := zq_ii zo_132 zkX10_bearing_0 31 rfl rfl 2 1 rfl rfl _ (by decide +kernel)
theorem zkX10_bearing_32 : zqc cX10_bearing 32 [2, 1, 167, 255, 226, 27, 172] := zq_of 7 (by decide +kernel)
theorem dX10_bearing_34 : decode cX10_bearing 34 = .ok (.goto (-30), 3) := zq_2s zo_167 zkX10_bearing_32 2 rfl rfl 255 226 rfl rfl _ (by decide +kernel)
theorem dX10_bearing_37 : decode cX10_bearing 37 = .ok (.iload_n 1, 1) := zq_0 zo_27 zkX10_bearing_32 5 rfl rfl
theorem dX10_bearing_38 : decode cX10_bearing 38 = .ok (.ireturn, 1) := zq_0 zo_172 zkX10_bearing_32 6 rfl rfl
theorem zkX10_purse_0 : zqc cX10_purse 0 [42, 3, 181, 0, 91, 29, 3, 17, 3, 231, 184, 0, 103, 153, 0, 22, 21, 4, 3, 5, 184, 0, 103, 153, 0, 12, 42, 27, 28, 182, 1, 1, 154, 0] := zq_of 34 (by decide +kernel)
theorem dX10_purse_0 : decode cX10_purse 0 = .ok (.aload_n 0, 1) := zq_0 zo_42 zkX10_purse_0 0 rfl rfl
theorem dX10_purse_1 : decode cX10_purse 1 = .ok (.iconst 0, 1) := zq_0 zo_3 zkX10_purse_0 1 rfl rfl
theorem dX10_purse_2 : decode cX10_purse 2 = .ok (.putfield 91, 3) := zq_2 zo_181 zkX10_purse_0 2 rfl rfl 0 91 rfl rfl _ rfl
theorem dX10_purse_5 : decode cX10_purse 5 = .ok (.iload_n 3, 1) := zq_0 zo_29 zkX10_purse_0 5 rfl rfl
theorem dX10_purse_6 : decode cX10_purse 6 = .ok (.iconst 0, 1) := zq_0 zo_3 zkX10_purse_0 6 rfl rfl
theorem dX10_purse_7 : decode cX10_purse 7 = .ok (.sipush 999, 3) := zq_2s zo_17 zkX10_purse_0 7 rfl rfl 3 231 rfl rfl _ (by decide +kernel)
theorem dX10_purse_10 : decode cX10_purse 10 = .ok (.invokestatic 103, 3) := zq_2 zo_184 zkX10_purse_0 10 rfl rfl 0 103 rfl rfl _ rfl
theorem dX10_purse_13 : decode cX10_purse 13 = .ok (.ifCond .eq 22, 3) := zq_2s zo_153 zkX10_purse_0 13 rfl rfl 0 22 rfl rfl _ (by decide +kernel)
theorem dX10_purse_16 : decode cX10_purse 16 = .ok (.iload 4, 2) := zq_1 zo_21 zkX10_purse_0 16 rfl rfl 4 rfl
theorem dX10_purse_18 : decode cX10_purse 18 = .ok (.iconst 0, 1) := zq_0 zo_3 zkX10_purse_0 18 rfl rfl
theorem dX10_purse_19 : decode cX10_purse 19 = .ok (.iconst 2, 1) := zq_0 zo_5 zkX10_purse_0 19 rfl rfl
theorem dX10_purse_20 : decode cX10_purse 20 = .ok (.invokestatic 103, 3) := zq_2 zo_184 zkX10_purse_0 20 rfl rfl 0 103 rfl rfl _ rfl
theorem dX10_purse_23 : decode cX10_purse 23 = .ok (.ifCond .eq 12, 3) := zq_2s zo_153 zkX10_purse_0 23 rfl rfl 0 12 rfl rfl _ (by decide +kernel)
theorem dX10_purse_26 : decode cX10_purse 26 = .ok (.aload_n 0, 1) := zq_0 zo_42 zkX10_purse_0 26 rfl rfl
theorem dX10_purse_27 : decode cX10_purse 27 = .ok (.iload_n 1, 1) := zq_0 zo_27 zkX10_purse_0 27 rfl rfl
theorem dX10_purse_28 : decode cX10_purse 28 = .ok (.iload_n 2, 1) := zq_0 zo_28 zkX10_purse_0 28 rfl rfl
theorem dX10_purse_29 : decode cX10_purse 29 = .ok (.invokevirtual 257, 3) := zq_2 zo_182 zkX10_purse_0 29 rfl rfl 1 1 rfl rfl _ rfl
theorem zkX10_purse_32 : zqc cX10_purse 32 [154, 0, 5, 2, 172, 42, 182, 1, 70, 54, 5, 3, 54, 6, 3, 54, 7, 3, 54, 8, 4, 54, 9, 21, 9, 21, 5, 163, 0, 74, 21, 9, 21, 5] := zq_of 34 (by decide +kernel)
theorem dX10_purse_32 : decode cX10_purse 32 = .ok (.ifCond .ne 5, 3) := zq_2s zo_154 zkX10_purse_32 0 rfl rfl 0 5 rfl rfl _ (by decide +kernel)
theorem dX10_purse_35 : decode cX10_purse 35 = .ok (.iconst (-1), 1) := zq_0 zo_2 zkX10_purse_32 3 rfl rfl
theorem dX10_purse_36 : decode cX10_purse 36 = .ok (.ireturn, 1) := zq_0 zo_172 zkX10_purse_32 4 rfl rfl
theorem dX10_purse_37 : decode cX10_purse 37 = .ok (.aload_n 0, 1) := zq_0 zo_42 zkX10_purse_32 5 rfl rfl
theorem dX10_purse_38 : decode cX10_purse 38 = .ok (.invokevirtual 326, 3) := zq_2 zo_182 zkX10_purse_32 6 rfl rfl 1 70 rfl rfl _ rfl
theorem dX10_purse_41 : decode cX10_purse 41 = .ok (.istore 5, 2) := zq_1 zo_54 zkX10_purse_32 9 rfl rfl 5 rfl
theorem dX10_purse_43 : decode cX10_purse 43 = .ok (.iconst 0, 1) := zq_0 zo_3 zkX10_purse_32 11 rfl rfl
theorem dX10_purse_44 : decode cX10_purse 44 = .ok (.istore 6, 2) := zq_1 zo_54 zkX10_purse_32 12 rfl rfl 6 rfl
theorem dX10_purse_46 : decode cX10_purse 46 = .ok (.iconst 0, 1) := zq_0 zo_3 zkX10_purse_32 14 rfl rfl
theorem dX10_purse_47 : decode cX10_purse 47 = .ok (.istore 7, 2) := zq_1 zo_54 zkX10_purse_32 15 rfl rfl 7 rfl
theorem dX10_purse_49 : decode cX10_purse 49 = .ok (.iconst 0, 1) := zq_0 zo_3 zkX10_purse_32 17 rfl rfl
theorem dX10_purse_50 : decode cX10_purse 50 = .ok (.istore 8, 2) := zq_1 zo_54 zkX10_purse_32 18 rfl rfl 8 rfl
theorem dX10_purse_52 : decode cX10_purse 52 = .ok (.iconst 1, 1) := zq_0 zo_4 zkX10_purse_32 20 rfl rfl
theorem dX10_purse_53 : decode cX10_purse 53 = .ok (.istore 9, 2) := zq_1 zo_54 zkX10_purse_32 21 rfl rfl 9 rfl
theorem dX10_purse_55 : decode cX10_purse 55 = .ok (.iload 9, 2) := zq_1 zo_21 zkX10_purse_32 23 rfl rfl 9 rfl
theorem dX10_purse_57 : decode cX10_purse 57 = .ok (.iload 5, 2) := zq_1 zo_21 zkX10_purse_32 25 rfl rfl 5 rfl
theorem dX10_purse_59 : decode cX10_purse 59 = .ok (.if_icmp .gt 74, 3) := zq_2s zo_163 zkX10_purse_32 27 rfl rfl 0 74 rfl rfl _ (by decide +kernel)
theorem dX10_purse_62 : decode cX10_purse 62 = .ok (.iload 9, 2) := zq_1 zo_21 zkX10_purse_32 30 rfl rfl 9 rfl
theorem zkX10_purse_64 : zqc cX10_purse 64 [21, 5, 2, 130, 126, 154, 0, 58, 42, 21, 9, 182, 1, 73, 54, 10, 42, 21, 9, 182, 1, 76, 54, 11, 21, 11, 29, 163, 0, 36, 21, 10, 21, 7] := zq_of 34 (by decide +kernel)
theorem dX10_purse_64 : decode cX10_purse 64 = .ok (.iload 5, 2) := zq_1 zo_21 zkX10_purse_64 0 rfl rfl 5 rfl
theorem dX10_purse_66 : decode cX10_purse 66 = .ok (.iconst (-1), 1) := zq_0 zo_2 zkX10_purse_64 2 rfl rfl
theorem dX10_purse_67 : decode cX10_purse 67 = .ok (.ixor, 1) := zq_0 zo_130 zkX10_purse_64 3 rfl rfl
theorem dX10_purse_68 : decode cX10_purse 68 = .ok (.iand, 1) := zq_0 zo_126 zkX10_purse_64 4 rfl rfl
theorem dX10_purse_69 : decode cX10_purse 69 = .ok (.ifCond .ne 58, 3) := zq_2s zo_154 zkX10_purse_64 5 rfl rfl 0 58 rfl rfl _ (by decide +kernel)
theorem dX10_purse_72 : decode cX10_purse 72 = .ok (.aload_n 0, 1) := zq_0 zo_42 zkX10_purse_64 8 rfl rfl
theorem dX10_purse_73 : decode cX10_purse 73 = .ok (.iload 9, 2) := zq_1 zo_21 zkX10_purse_64 9 rfl rfl 9 rfl
theorem dX10_purse_75 : decode cX10_purse 75 = .ok (.invokevirtual 329, 3) := zq_2 zo_182 zkX10_purse_64 11 rfl rfl 1 73 rfl rfl _ rfl
theorem dX10_purse_78 : decode cX10_purse 78 = .ok (.istore 10, 2) := zq_1 zo_54 zkX10_purse_64 14 rfl rfl 10 rfl
theorem dX10_purse_80 : decode cX10_purse 80 = .ok (.aload_n 0, 1) := zq_0 zo_42 zkX10_purse_64 16 rfl rfl
theorem dX10_purse_81 : decode cX10_purse 81 = .ok (.iload 9, 2) := zq_1 zo_21 zkX10_purse_64 17 rfl rfl 9 rfl
theorem dX10_purse_83 : decode cX10_purse 83 = .ok (.invokevirtual 332, 3) := zq_2 zo_182 zkX10_purse_64 19 rfl rfl 1 76 rfl rfl _ rfl
theorem dX10_purse_86 : decode cX10_purse 86 = .ok (.istore 11, 2) := zq_1 zo_54 zkX10_purse_64 22 rfl rfl 11 rfl
theorem dX10_purse_88 : decode cX10_purse 88 = .ok (.iload 11, 2) := zq_1 zo_21 zkX10_purse_64 24 rfl rfl 11 rfl
theorem dX10_purse_90 : decode cX10_purse 90 = .ok (.iload_n 3, 1) := zq_0 zo_29 zkX10_purse_64 26 rfl rfl
theorem dX10_purse_91 : decode cX10_purse 91 = .ok (.if_icmp .gt 36, 3) := zq_2s zo_163 zkX10_purse_64 27 rfl rfl 0 36 rfl rfl _ (by decide +kernel)
theorem dX10_purse_94 : decode cX10_purse 94 = .ok (.iload 10, 2) := zq_1 zo_21 zkX10_purse_64 30 rfl rfl 10 rfl
theorem zkX10_purse_96 : zqc cX10_purse 96 [21, 7, 163, 0, 17, 21, 10, 21, 7, 160, 0, 22, 21, 11, 21, 8, 162, 0, 15, 21, 9, 54, 6, 21, 10, 54, 7, 21, 11, 54, 8, 132, 9, 1] := zq_of 34 (by decide +kernel)
theorem dX10_purse_96 : decode cX10_purse 96 = .ok (.iload 7, 2) := zq_1 zo_21 zkX10_purse_96 0 rfl rfl 7 rfl
theorem dX10_purse_98 : decode cX10_purse 98 = .ok (.if_icmp .gt 17, 3) := zq_2s zo_163 zkX10_purse_96 2 rfl rfl 0 17 rfl rfl _ (by decide +kernel)
theorem dX10_purse_101 : decode cX10_purse 101 = .ok (.iload 10, 2) := zq_1 zo_21 zkX10_purse_96 5 rfl rfl 10 rfl
theorem dX10_purse_103 : decode cX10_purse 103 = .ok (.iload 7, 2) := zq_1 zo_21 zkX10_purse_96 7 rfl rfl 7 rfl
theorem dX10_purse_105 : decode cX10_purse 105 = .ok (.if_icmp .ne 22, 3) := zq_2s zo_160 zkX10_purse_96 9 rfl rfl 0 22 rfl rfl _ (by decide +kernel)
theorem dX10_purse_108 : decode cX10_purse 108 = .ok (.iload 11, 2) := zq_1 zo_21 zkX10_purse_96 12 rfl rfl 11 rfl
theorem dX10_purse_110 : decode cX10_purse 110 = .ok (.iload 8, 2) := zq_1 zo_21 zkX10_purse_96 14 rfl rfl 8 rfl
theorem dX10_purse_112 : decode cX10_purse 112 = .ok (.if_icmp .ge 15, 3) := zq_2s zo_162 zkX10_purse_96 16 rfl rfl 0 15 rfl rfl _ (by decide +kernel)
theorem dX10_purse_115 : decode cX10_purse 115 = .ok (.iload 9, 2) := zq_1 zo_21 zkX10_purse_96 19 rfl rfl 9 rfl
theorem dX10_purse_117 : decode cX10_purse 117 = .ok (.istore 6, 2) := zq_1 zo_54 zkX10_purse_96 21 rfl rfl 6 rfl
theorem dX10_purse_119 : decode cX10_purse 119 = .ok (.iload 10, 2) := zq_1 zo_21 zkX10_purse_96 23 rfl rfl 10 rfl
theorem dX10_purse_121 : decode cX10_purse 121 = .ok (.istore 7, 2) := zq_1 zo_54 zkX10_purse_96 25 rfl rfl 7 rfl
theorem dX10_purse_123 : decode cX10_purse 123 = .ok (.iload 11, 2) := zq_1 zo_21 zkX10_purse_96 27 rfl rfl 11 rfl
theorem dX10_purse_125 : decode cX10_purse 125 = .ok (.istore 8, 2) := zq_1 zo_54 zkX10_purse_96 29 rfl rfl 8 rfl
theorem dX10_purse_127 : decode cX10_purse 127 = .ok (.iinc 9 1, 3) := zq_ii zo_132 zkX10_purse_96 31 rfl rfl 9 1 rfl rfl _ (by decide +kernel)
theorem zkX10_purse_128 : zqc cX10_purse 128 [9, 1, 167, 255, 181, 21, 4, 154, 0, 8, 21, 7, 167, 0, 16, 21, 4, 4, 160, 0, 8, 21, 6, 167, 0, 5, 21, 8, 172] := zq_of 29 (by decide +kernel)
theorem dX10_purse_130 : decode cX10_purse 130 = .ok (.goto (-75), 3) := zq_2s zo_167 zkX10_purse_128 2 rfl rfl 255 181 rfl rfl _ (by decide +kernel)
theorem dX10_purse_133 : decode cX10_purse 133 = .ok (.iload 4, 2) := zq_1 zo_21 zkX10_purse_128 5 rfl rfl 4 rfl
theorem dX10_purse_135 : decode cX10_purse 135 = .ok (.ifCond .ne 8, 3) := zq_2s zo_154 zkX10_purse_128 7 rfl rfl 0 8 rfl rfl _ (by decide +kernel)
theorem dX10_purse_138 : decode cX10_purse 138 = .ok (.iload 7, 2) := zq_1 zo_21 zkX10_purse_128 10 rfl rfl 7 rfl
theorem dX10_purse_140 : decode cX10_purse 140 = .ok (.goto 16, 3) := zq_2s zo_167 zkX10_purse_128 12 rfl rfl 0 16 rfl rfl _ (by decide +kernel)
theorem dX10_purse_143 : decode cX10_purse 143 = .ok (.iload 4, 2) := zq_1 zo_21 zkX10_purse_128 15 rfl rfl 4 rfl
theorem dX10_purse_145 : decode cX10_purse 145 = .ok (.iconst 1, 1) := zq_0 zo_4 zkX10_purse_128 17 rfl rfl
theorem dX10_purse_146 : decode cX10_purse 146 = .ok (.if_icmp .ne 8, 3) := zq_2s zo_160 zkX10_purse_128 18 rfl rfl 0 8 rfl rfl _ (by decide +kernel)
theorem dX10_purse_149 : decode cX10_purse 149 = .ok (.iload 6, 2) := zq_1 zo_21 zkX10_purse_128 21 rfl rfl 6 rfl
theorem dX10_purse_151 : decode cX10_purse 151 = .ok (.goto 5, 3) := zq_2s zo_167 zkX10_purse_128 23 rfl rfl 0 5 rfl rfl _ (by decide +kernel)
theorem dX10_purse_154 : decode cX10_purse 154 = .ok (.iload 8, 2) := zq_1 zo_21 zkX10_purse_128 26 rfl rfl 8 rfl
theorem dX10_purse_156 : decode cX10_purse 156 = .ok (.ireturn, 1) := zq_0 zo_172 zkX10_purse_128 28 rfl rfl
theorem zkX10_gainOf_0 : zqc cX10_gainOf 0 [42, 3, 3, 27, 182, 1, 54, 42, 28, 182, 1, 79, 172] := zq_of 13 (by decide +kernel)
theorem dX10_gainOf_0 : decode cX10_gainOf 0 = .ok (.aload_n 0, 1) := zq_0 zo_42 zkX10_gainOf_0 0 rfl rfl
theorem dX10_gainOf_1 : decode cX10_gainOf 1 = .ok (.iconst 0, 1) := zq_0 zo_3 zkX10_gainOf_0 1 rfl rfl
theorem dX10_gainOf_2 : decode cX10_gainOf 2 = .ok (.iconst 0, 1) := zq_0 zo_3 zkX10_gainOf_0 2 rfl rfl
theorem dX10_gainOf_3 : decode cX10_gainOf 3 = .ok (.iload_n 1, 1) := zq_0 zo_27 zkX10_gainOf_0 3 rfl rfl
theorem dX10_gainOf_4 : decode cX10_gainOf 4 = .ok (.invokevirtual 310, 3) := zq_2 zo_182 zkX10_gainOf_0 4 rfl rfl 1 54 rfl rfl _ rfl
theorem dX10_gainOf_7 : decode cX10_gainOf 7 = .ok (.aload_n 0, 1) := zq_0 zo_42 zkX10_gainOf_0 7 rfl rfl
theorem dX10_gainOf_8 : decode cX10_gainOf 8 = .ok (.iload_n 2, 1) := zq_0 zo_28 zkX10_gainOf_0 8 rfl rfl
theorem dX10_gainOf_9 : decode cX10_gainOf 9 = .ok (.invokevirtual 335, 3) := zq_2 zo_182 zkX10_gainOf_0 9 rfl rfl 1 79 rfl rfl _ rfl
theorem dX10_gainOf_12 : decode cX10_gainOf 12 = .ok (.ireturn, 1) := zq_0 zo_172 zkX10_gainOf_0 12 rfl rfl
theorem zkX10_gainNow_0 : zqc cX10_gainNow 0 [3, 61, 3, 62, 29, 42, 27, 4, 182, 1, 10, 162, 0, 32, 28, 42, 180, 0, 59, 29, 46, 2, 159, 0, 12, 42, 180, 0, 50, 29, 46, 167, 0, 4] := zq_of 34 (by decide +kernel)
theorem dX10_gainNow_0 : decode cX10_gainNow 0 = .ok (.iconst 0, 1) := zq_0 zo_3 zkX10_gainNow_0 0 rfl rfl
theorem dX10_gainNow_1 : decode cX10_gainNow 1 = .ok (.istore_n 2, 1) := zq_0 zo_61 zkX10_gainNow_0 1 rfl rfl
theorem dX10_gainNow_2 : decode cX10_gainNow 2 = .ok (.iconst 0, 1) := zq_0 zo_3 zkX10_gainNow_0 2 rfl rfl
theorem dX10_gainNow_3 : decode cX10_gainNow 3 = .ok (.istore_n 3, 1) := zq_0 zo_62 zkX10_gainNow_0 3 rfl rfl
theorem dX10_gainNow_4 : decode cX10_gainNow 4 = .ok (.iload_n 3, 1) := zq_0 zo_29 zkX10_gainNow_0 4 rfl rfl
theorem dX10_gainNow_5 : decode cX10_gainNow 5 = .ok (.aload_n 0, 1) := zq_0 zo_42 zkX10_gainNow_0 5 rfl rfl
theorem dX10_gainNow_6 : decode cX10_gainNow 6 = .ok (.iload_n 1, 1) := zq_0 zo_27 zkX10_gainNow_0 6 rfl rfl
theorem dX10_gainNow_7 : decode cX10_gainNow 7 = .ok (.iconst 1, 1) := zq_0 zo_4 zkX10_gainNow_0 7 rfl rfl
theorem dX10_gainNow_8 : decode cX10_gainNow 8 = .ok (.invokevirtual 266, 3) := zq_2 zo_182 zkX10_gainNow_0 8 rfl rfl 1 10 rfl rfl _ rfl
theorem dX10_gainNow_11 : decode cX10_gainNow 11 = .ok (.if_icmp .ge 32, 3) := zq_2s zo_162 zkX10_gainNow_0 11 rfl rfl 0 32 rfl rfl _ (by decide +kernel)
theorem dX10_gainNow_14 : decode cX10_gainNow 14 = .ok (.iload_n 2, 1) := zq_0 zo_28 zkX10_gainNow_0 14 rfl rfl
theorem dX10_gainNow_15 : decode cX10_gainNow 15 = .ok (.aload_n 0, 1) := zq_0 zo_42 zkX10_gainNow_0 15 rfl rfl
theorem dX10_gainNow_16 : decode cX10_gainNow 16 = .ok (.getfield 59, 3) := zq_2 zo_180 zkX10_gainNow_0 16 rfl rfl 0 59 rfl rfl _ rfl
theorem dX10_gainNow_19 : decode cX10_gainNow 19 = .ok (.iload_n 3, 1) := zq_0 zo_29 zkX10_gainNow_0 19 rfl rfl
theorem dX10_gainNow_20 : decode cX10_gainNow 20 = .ok (.iaload, 1) := zq_0 zo_46 zkX10_gainNow_0 20 rfl rfl
theorem dX10_gainNow_21 : decode cX10_gainNow 21 = .ok (.iconst (-1), 1) := zq_0 zo_2 zkX10_gainNow_0 21 rfl rfl
theorem dX10_gainNow_22 : decode cX10_gainNow 22 = .ok (.if_icmp .eq 12, 3) := zq_2s zo_159 zkX10_gainNow_0 22 rfl rfl 0 12 rfl rfl _ (by decide +kernel)
theorem dX10_gainNow_25 : decode cX10_gainNow 25 = .ok (.aload_n 0, 1) := zq_0 zo_42 zkX10_gainNow_0 25 rfl rfl
theorem dX10_gainNow_26 : decode cX10_gainNow 26 = .ok (.getfield 50, 3) := zq_2 zo_180 zkX10_gainNow_0 26 rfl rfl 0 50 rfl rfl _ rfl
theorem dX10_gainNow_29 : decode cX10_gainNow 29 = .ok (.iload_n 3, 1) := zq_0 zo_29 zkX10_gainNow_0 29 rfl rfl
theorem dX10_gainNow_30 : decode cX10_gainNow 30 = .ok (.iaload, 1) := zq_0 zo_46 zkX10_gainNow_0 30 rfl rfl
theorem dX10_gainNow_31 : decode cX10_gainNow 31 = .ok (.goto 4, 3) := zq_2s zo_167 zkX10_gainNow_0 31 rfl rfl 0 4 rfl rfl _ (by decide +kernel)
theorem zkX10_gainNow_32 : zqc cX10_gainNow 32 [0, 4, 3, 96, 61, 132, 3, 1, 167, 255, 220, 16, 10, 42, 180, 0, 68, 27, 46, 104, 28, 100, 172] := zq_of 23 (by decide +kernel)
theorem dX10_gainNow_34 : decode cX10_gainNow 34 = .ok (.iconst 0, 1) := zq_0 zo_3 zkX10_gainNow_32 2 rfl rfl
theorem dX10_gainNow_35 : decode cX10_gainNow 35 = .ok (.iadd, 1) := zq_0 zo_96 zkX10_gainNow_32 3 rfl rfl
theorem dX10_gainNow_36 : decode cX10_gainNow 36 = .ok (.istore_n 2, 1) := zq_0 zo_61 zkX10_gainNow_32 4 rfl rfl
theorem dX10_gainNow_37 : decode cX10_gainNow 37 = .ok (.iinc 3 1, 3) := zq_ii zo_132 zkX10_gainNow_32 5 rfl rfl 3 1 rfl rfl _ (by decide +kernel)
theorem dX10_gainNow_40 : decode cX10_gainNow 40 = .ok (.goto (-36), 3) := zq_2s zo_167 zkX10_gainNow_32 8 rfl rfl 255 220 rfl rfl _ (by decide +kernel)
theorem dX10_gainNow_43 : decode cX10_gainNow 43 = .ok (.bipush 10, 2) := zq_1s zo_16 zkX10_gainNow_32 11 rfl rfl 10 rfl _ (by decide +kernel)
theorem dX10_gainNow_45 : decode cX10_gainNow 45 = .ok (.aload_n 0, 1) := zq_0 zo_42 zkX10_gainNow_32 13 rfl rfl
theorem dX10_gainNow_46 : decode cX10_gainNow 46 = .ok (.getfield 68, 3) := zq_2 zo_180 zkX10_gainNow_32 14 rfl rfl 0 68 rfl rfl _ rfl
theorem dX10_gainNow_49 : decode cX10_gainNow 49 = .ok (.iload_n 1, 1) := zq_0 zo_27 zkX10_gainNow_32 17 rfl rfl
theorem dX10_gainNow_50 : decode cX10_gainNow 50 = .ok (.iaload, 1) := zq_0 zo_46 zkX10_gainNow_32 18 rfl rfl
theorem dX10_gainNow_51 : decode cX10_gainNow 51 = .ok (.imul, 1) := zq_0 zo_104 zkX10_gainNow_32 19 rfl rfl
theorem dX10_gainNow_52 : decode cX10_gainNow 52 = .ok (.iload_n 2, 1) := zq_0 zo_28 zkX10_gainNow_32 20 rfl rfl
theorem dX10_gainNow_53 : decode cX10_gainNow 53 = .ok (.isub, 1) := zq_0 zo_100 zkX10_gainNow_32 21 rfl rfl
theorem dX10_gainNow_54 : decode cX10_gainNow 54 = .ok (.ireturn, 1) := zq_0 zo_172 zkX10_gainNow_32 22 rfl rfl
theorem zkX10_isRest_0 : zqc cX10_isRest 0 [3, 61, 28, 42, 180, 0, 251, 162, 0, 30, 42, 27, 4, 28, 120, 130, 28, 182, 1, 82, 42, 27, 28, 182, 1, 82, 164, 0, 5, 3, 172, 132, 2, 1] := zq_of 34 (by decide +kernel)
theorem dX10_isRest_0 : decode cX10_isRest 0 = .ok (.iconst 0, 1) := zq_0 zo_3 zkX10_isRest_0 0 rfl rfl
theorem dX10_isRest_1 : decode cX10_isRest 1 = .ok (.istore_n 2, 1) := zq_0 zo_61 zkX10_isRest_0 1 rfl rfl
theorem dX10_isRest_2 : decode cX10_isRest 2 = .ok (.iload_n 2, 1) := zq_0 zo_28 zkX10_isRest_0 2 rfl rfl
theorem dX10_isRest_3 : decode cX10_isRest 3 = .ok (.aload_n 0, 1) := zq_0 zo_42 zkX10_isRest_0 3 rfl rfl
theorem dX10_isRest_4 : decode cX10_isRest 4 = .ok (.getfield 251, 3) := zq_2 zo_180 zkX10_isRest_0 4 rfl rfl 0 251 rfl rfl _ rfl
theorem dX10_isRest_7 : decode cX10_isRest 7 = .ok (.if_icmp .ge 30, 3) := zq_2s zo_162 zkX10_isRest_0 7 rfl rfl 0 30 rfl rfl _ (by decide +kernel)
theorem dX10_isRest_10 : decode cX10_isRest 10 = .ok (.aload_n 0, 1) := zq_0 zo_42 zkX10_isRest_0 10 rfl rfl
theorem dX10_isRest_11 : decode cX10_isRest 11 = .ok (.iload_n 1, 1) := zq_0 zo_27 zkX10_isRest_0 11 rfl rfl
theorem dX10_isRest_12 : decode cX10_isRest 12 = .ok (.iconst 1, 1) := zq_0 zo_4 zkX10_isRest_0 12 rfl rfl
theorem dX10_isRest_13 : decode cX10_isRest 13 = .ok (.iload_n 2, 1) := zq_0 zo_28 zkX10_isRest_0 13 rfl rfl
theorem dX10_isRest_14 : decode cX10_isRest 14 = .ok (.ishl, 1) := zq_0 zo_120 zkX10_isRest_0 14 rfl rfl
theorem dX10_isRest_15 : decode cX10_isRest 15 = .ok (.ixor, 1) := zq_0 zo_130 zkX10_isRest_0 15 rfl rfl
theorem dX10_isRest_16 : decode cX10_isRest 16 = .ok (.iload_n 2, 1) := zq_0 zo_28 zkX10_isRest_0 16 rfl rfl
theorem dX10_isRest_17 : decode cX10_isRest 17 = .ok (.invokevirtual 338, 3) := zq_2 zo_182 zkX10_isRest_0 17 rfl rfl 1 82 rfl rfl _ rfl
theorem dX10_isRest_20 : decode cX10_isRest 20 = .ok (.aload_n 0, 1) := zq_0 zo_42 zkX10_isRest_0 20 rfl rfl
theorem dX10_isRest_21 : decode cX10_isRest 21 = .ok (.iload_n 1, 1) := zq_0 zo_27 zkX10_isRest_0 21 rfl rfl
theorem dX10_isRest_22 : decode cX10_isRest 22 = .ok (.iload_n 2, 1) := zq_0 zo_28 zkX10_isRest_0 22 rfl rfl
theorem dX10_isRest_23 : decode cX10_isRest 23 = .ok (.invokevirtual 338, 3) := zq_2 zo_182 zkX10_isRest_0 23 rfl rfl 1 82 rfl rfl _ rfl
theorem dX10_isRest_26 : decode cX10_isRest 26 = .ok (.if_icmp .le 5, 3) := zq_2s zo_164 zkX10_isRest_0 26 rfl rfl 0 5 rfl rfl _ (by decide +kernel)
theorem dX10_isRest_29 : decode cX10_isRest 29 = .ok (.iconst 0, 1) := zq_0 zo_3 zkX10_isRest_0 29 rfl rfl
theorem dX10_isRest_30 : decode cX10_isRest 30 = .ok (.ireturn, 1) := zq_0 zo_172 zkX10_isRest_0 30 rfl rfl
theorem dX10_isRest_31 : decode cX10_isRest 31 = .ok (.iinc 2 1, 3) := zq_ii zo_132 zkX10_isRest_0 31 rfl rfl 2 1 rfl rfl _ (by decide +kernel)
theorem zkX10_isRest_32 : zqc cX10_isRest 32 [2, 1, 167, 255, 224, 4, 172] := zq_of 7 (by decide +kernel)
theorem dX10_isRest_34 : decode cX10_isRest 34 = .ok (.goto (-32), 3) := zq_2s zo_167 zkX10_isRest_32 2 rfl rfl 255 224 rfl rfl _ (by decide +kernel)
theorem dX10_isRest_37 : decode cX10_isRest 37 = .ok (.iconst 1, 1) := zq_0 zo_4 zkX10_isRest_32 5 rfl rfl
theorem dX10_isRest_38 : decode cX10_isRest 38 = .ok (.ireturn, 1) := zq_0 zo_172 zkX10_isRest_32 6 rfl rfl
theorem zkX10_rest_0 : zqc cX10_rest 0 [42, 3, 181, 0, 91, 42, 27, 28, 182, 1, 1, 154, 0, 6, 16, 254, 172, 3, 54, 4, 3, 54, 5, 21, 5, 42, 182, 1, 51, 163, 0, 30, 42, 21] := zq_of 34 (by decide +kernel)
theorem dX10_rest_0 : decode cX10_rest 0 = .ok (.aload_n 0, 1) := zq_0 zo_42 zkX10_rest_0 0 rfl rfl
theorem dX10_rest_1 : decode cX10_rest 1 = .ok (.iconst 0, 1) := zq_0 zo_3 zkX10_rest_0 1 rfl rfl
theorem dX10_rest_2 : decode cX10_rest 2 = .ok (.putfield 91, 3) := zq_2 zo_181 zkX10_rest_0 2 rfl rfl 0 91 rfl rfl _ rfl
theorem dX10_rest_5 : decode cX10_rest 5 = .ok (.aload_n 0, 1) := zq_0 zo_42 zkX10_rest_0 5 rfl rfl
theorem dX10_rest_6 : decode cX10_rest 6 = .ok (.iload_n 1, 1) := zq_0 zo_27 zkX10_rest_0 6 rfl rfl
theorem dX10_rest_7 : decode cX10_rest 7 = .ok (.iload_n 2, 1) := zq_0 zo_28 zkX10_rest_0 7 rfl rfl
theorem dX10_rest_8 : decode cX10_rest 8 = .ok (.invokevirtual 257, 3) := zq_2 zo_182 zkX10_rest_0 8 rfl rfl 1 1 rfl rfl _ rfl
theorem dX10_rest_11 : decode cX10_rest 11 = .ok (.ifCond .ne 6, 3) := zq_2s zo_154 zkX10_rest_0 11 rfl rfl 0 6 rfl rfl _ (by decide +kernel)
theorem dX10_rest_14 : decode cX10_rest 14 = .ok (.bipush (-2), 2) := zq_1s zo_16 zkX10_rest_0 14 rfl rfl 254 rfl _ (by decide +kernel)
theorem dX10_rest_16 : decode cX10_rest 16 = .ok (.ireturn, 1) := zq_0 zo_172 zkX10_rest_0 16 rfl rfl
theorem dX10_rest_17 : decode cX10_rest 17 = .ok (.iconst 0, 1) := zq_0 zo_3 zkX10_rest_0 17 rfl rfl
theorem dX10_rest_18 : decode cX10_rest 18 = .ok (.istore 4, 2) := zq_1 zo_54 zkX10_rest_0 18 rfl rfl 4 rfl
theorem dX10_rest_20 : decode cX10_rest 20 = .ok (.iconst 0, 1) := zq_0 zo_3 zkX10_rest_0 20 rfl rfl
theorem dX10_rest_21 : decode cX10_rest 21 = .ok (.istore 5, 2) := zq_1 zo_54 zkX10_rest_0 21 rfl rfl 5 rfl
theorem dX10_rest_23 : decode cX10_rest 23 = .ok (.iload 5, 2) := zq_1 zo_21 zkX10_rest_0 23 rfl rfl 5 rfl
theorem dX10_rest_25 : decode cX10_rest 25 = .ok (.aload_n 0, 1) := zq_0 zo_42 zkX10_rest_0 25 rfl rfl
theorem dX10_rest_26 : decode cX10_rest 26 = .ok (.invokevirtual 307, 3) := zq_2 zo_182 zkX10_rest_0 26 rfl rfl 1 51 rfl rfl _ rfl
theorem dX10_rest_29 : decode cX10_rest 29 = .ok (.if_icmp .gt 30, 3) := zq_2s zo_163 zkX10_rest_0 29 rfl rfl 0 30 rfl rfl _ (by decide +kernel)
theorem zkX10_rest_32 : zqc cX10_rest 32 [42, 21, 5, 182, 1, 85, 153, 0, 15, 21, 4, 29, 160, 0, 6, 21, 5, 172, 132, 4, 1, 132, 5, 1, 167, 255, 223, 29, 2, 160, 0, 8, 21, 4] := zq_of 34 (by decide +kernel)
theorem dX10_rest_32 : decode cX10_rest 32 = .ok (.aload_n 0, 1) := zq_0 zo_42 zkX10_rest_32 0 rfl rfl
theorem dX10_rest_33 : decode cX10_rest 33 = .ok (.iload 5, 2) := zq_1 zo_21 zkX10_rest_32 1 rfl rfl 5 rfl
theorem dX10_rest_35 : decode cX10_rest 35 = .ok (.invokevirtual 341, 3) := zq_2 zo_182 zkX10_rest_32 3 rfl rfl 1 85 rfl rfl _ rfl
theorem dX10_rest_38 : decode cX10_rest 38 = .ok (.ifCond .eq 15, 3) := zq_2s zo_153 zkX10_rest_32 6 rfl rfl 0 15 rfl rfl _ (by decide +kernel)
theorem dX10_rest_41 : decode cX10_rest 41 = .ok (.iload 4, 2) := zq_1 zo_21 zkX10_rest_32 9 rfl rfl 4 rfl
theorem dX10_rest_43 : decode cX10_rest 43 = .ok (.iload_n 3, 1) := zq_0 zo_29 zkX10_rest_32 11 rfl rfl
theorem dX10_rest_44 : decode cX10_rest 44 = .ok (.if_icmp .ne 6, 3) := zq_2s zo_160 zkX10_rest_32 12 rfl rfl 0 6 rfl rfl _ (by decide +kernel)
theorem dX10_rest_47 : decode cX10_rest 47 = .ok (.iload 5, 2) := zq_1 zo_21 zkX10_rest_32 15 rfl rfl 5 rfl
theorem dX10_rest_49 : decode cX10_rest 49 = .ok (.ireturn, 1) := zq_0 zo_172 zkX10_rest_32 17 rfl rfl
theorem dX10_rest_50 : decode cX10_rest 50 = .ok (.iinc 4 1, 3) := zq_ii zo_132 zkX10_rest_32 18 rfl rfl 4 1 rfl rfl _ (by decide +kernel)
theorem dX10_rest_53 : decode cX10_rest 53 = .ok (.iinc 5 1, 3) := zq_ii zo_132 zkX10_rest_32 21 rfl rfl 5 1 rfl rfl _ (by decide +kernel)
theorem dX10_rest_56 : decode cX10_rest 56 = .ok (.goto (-33), 3) := zq_2s zo_167 zkX10_rest_32 24 rfl rfl 255 223 rfl rfl _ (by decide +kernel)
theorem dX10_rest_59 : decode cX10_rest 59 = .ok (.iload_n 3, 1) := zq_0 zo_29 zkX10_rest_32 27 rfl rfl
theorem dX10_rest_60 : decode cX10_rest 60 = .ok (.iconst (-1), 1) := zq_0 zo_2 zkX10_rest_32 28 rfl rfl
theorem dX10_rest_61 : decode cX10_rest 61 = .ok (.if_icmp .ne 8, 3) := zq_2s zo_160 zkX10_rest_32 29 rfl rfl 0 8 rfl rfl _ (by decide +kernel)
theorem zkX10_rest_64 : zqc cX10_rest 64 [21, 4, 167, 0, 5, 16, 254, 172] := zq_of 8 (by decide +kernel)
theorem dX10_rest_64 : decode cX10_rest 64 = .ok (.iload 4, 2) := zq_1 zo_21 zkX10_rest_64 0 rfl rfl 4 rfl
theorem dX10_rest_66 : decode cX10_rest 66 = .ok (.goto 5, 3) := zq_2s zo_167 zkX10_rest_64 2 rfl rfl 0 5 rfl rfl _ (by decide +kernel)
theorem dX10_rest_69 : decode cX10_rest 69 = .ok (.bipush (-2), 2) := zq_1s zo_16 zkX10_rest_64 5 rfl rfl 254 rfl _ (by decide +kernel)
theorem dX10_rest_71 : decode cX10_rest 71 = .ok (.ireturn, 1) := zq_0 zo_172 zkX10_rest_64 7 rfl rfl
theorem zkX10_gain_0 : zqc cX10_gain 0 [42, 3, 181, 0, 91, 42, 27, 28, 182, 1, 1, 153, 0, 34, 29, 3, 42, 182, 1, 51, 184, 0, 103, 153, 0, 22, 42, 21, 4, 182, 1, 7, 153, 0] := zq_of 34 (by decide +kernel)
theorem dX10_gain_0 : decode cX10_gain 0 = .ok (.aload_n 0, 1) := zq_0 zo_42 zkX10_gain_0 0 rfl rfl
theorem dX10_gain_1 : decode cX10_gain 1 = .ok (.iconst 0, 1) := zq_0 zo_3 zkX10_gain_0 1 rfl rfl
theorem dX10_gain_2 : decode cX10_gain 2 = .ok (.putfield 91, 3) := zq_2 zo_181 zkX10_gain_0 2 rfl rfl 0 91 rfl rfl _ rfl
theorem dX10_gain_5 : decode cX10_gain 5 = .ok (.aload_n 0, 1) := zq_0 zo_42 zkX10_gain_0 5 rfl rfl
theorem dX10_gain_6 : decode cX10_gain 6 = .ok (.iload_n 1, 1) := zq_0 zo_27 zkX10_gain_0 6 rfl rfl
theorem dX10_gain_7 : decode cX10_gain 7 = .ok (.iload_n 2, 1) := zq_0 zo_28 zkX10_gain_0 7 rfl rfl
theorem dX10_gain_8 : decode cX10_gain 8 = .ok (.invokevirtual 257, 3) := zq_2 zo_182 zkX10_gain_0 8 rfl rfl 1 1 rfl rfl _ rfl
theorem dX10_gain_11 : decode cX10_gain 11 = .ok (.ifCond .eq 34, 3) := zq_2s zo_153 zkX10_gain_0 11 rfl rfl 0 34 rfl rfl _ (by decide +kernel)
theorem dX10_gain_14 : decode cX10_gain 14 = .ok (.iload_n 3, 1) := zq_0 zo_29 zkX10_gain_0 14 rfl rfl
theorem dX10_gain_15 : decode cX10_gain 15 = .ok (.iconst 0, 1) := zq_0 zo_3 zkX10_gain_0 15 rfl rfl
theorem dX10_gain_16 : decode cX10_gain 16 = .ok (.aload_n 0, 1) := zq_0 zo_42 zkX10_gain_0 16 rfl rfl
theorem dX10_gain_17 : decode cX10_gain 17 = .ok (.invokevirtual 307, 3) := zq_2 zo_182 zkX10_gain_0 17 rfl rfl 1 51 rfl rfl _ rfl
theorem dX10_gain_20 : decode cX10_gain 20 = .ok (.invokestatic 103, 3) := zq_2 zo_184 zkX10_gain_0 20 rfl rfl 0 103 rfl rfl _ rfl
theorem dX10_gain_23 : decode cX10_gain 23 = .ok (.ifCond .eq 22, 3) := zq_2s zo_153 zkX10_gain_0 23 rfl rfl 0 22 rfl rfl _ (by decide +kernel)
theorem dX10_gain_26 : decode cX10_gain 26 = .ok (.aload_n 0, 1) := zq_0 zo_42 zkX10_gain_0 26 rfl rfl
theorem dX10_gain_27 : decode cX10_gain 27 = .ok (.iload 4, 2) := zq_1 zo_21 zkX10_gain_0 27 rfl rfl 4 rfl
theorem dX10_gain_29 : decode cX10_gain 29 = .ok (.invokevirtual 263, 3) := zq_2 zo_182 zkX10_gain_0 29 rfl rfl 1 7 rfl rfl _ rfl
theorem zkX10_gain_32 : zqc cX10_gain 32 [153, 0, 13, 42, 29, 21, 4, 182, 1, 82, 167, 0, 6, 19, 1, 88, 172] := zq_of 17 (by decide +kernel)
theorem dX10_gain_32 : decode cX10_gain 32 = .ok (.ifCond .eq 13, 3) := zq_2s zo_153 zkX10_gain_32 0 rfl rfl 0 13 rfl rfl _ (by decide +kernel)
theorem dX10_gain_35 : decode cX10_gain 35 = .ok (.aload_n 0, 1) := zq_0 zo_42 zkX10_gain_32 3 rfl rfl
theorem dX10_gain_36 : decode cX10_gain 36 = .ok (.iload_n 3, 1) := zq_0 zo_29 zkX10_gain_32 4 rfl rfl
theorem dX10_gain_37 : decode cX10_gain 37 = .ok (.iload 4, 2) := zq_1 zo_21 zkX10_gain_32 5 rfl rfl 4 rfl
theorem dX10_gain_39 : decode cX10_gain 39 = .ok (.invokevirtual 338, 3) := zq_2 zo_182 zkX10_gain_32 7 rfl rfl 1 82 rfl rfl _ rfl
theorem dX10_gain_42 : decode cX10_gain 42 = .ok (.goto 6, 3) := zq_2s zo_167 zkX10_gain_32 10 rfl rfl 0 6 rfl rfl _ (by decide +kernel)
theorem dX10_gain_45 : decode cX10_gain 45 = .ok (.ldc_w 344, 3) := zq_2 zo_19 zkX10_gain_32 13 rfl rfl 1 88 rfl rfl _ rfl
theorem dX10_gain_48 : decode cX10_gain 48 = .ok (.ireturn, 1) := zq_0 zo_172 zkX10_gain_32 16 rfl rfl
theorem zkX10_findOdds_0 : zqc cX10_findOdds 0 [3, 61, 28, 17, 4, 176, 162, 0, 16, 42, 180, 0, 75, 28, 9, 80, 132, 2, 1, 167, 255, 239, 42, 180, 0, 75, 3, 10, 80, 42, 10, 181, 1, 89] := zq_of 34 (by decide +kernel)
theorem dX10_findOdds_0 : decode cX10_findOdds 0 = .ok (.iconst 0, 1) := zq_0 zo_3 zkX10_findOdds_0 0 rfl rfl
theorem dX10_findOdds_1 : decode cX10_findOdds 1 = .ok (.istore_n 2, 1) := zq_0 zo_61 zkX10_findOdds_0 1 rfl rfl
theorem dX10_findOdds_2 : decode cX10_findOdds 2 = .ok (.iload_n 2, 1) := zq_0 zo_28 zkX10_findOdds_0 2 rfl rfl
theorem dX10_findOdds_3 : decode cX10_findOdds 3 = .ok (.sipush 1200, 3) := zq_2s zo_17 zkX10_findOdds_0 3 rfl rfl 4 176 rfl rfl _ (by decide +kernel)
theorem dX10_findOdds_6 : decode cX10_findOdds 6 = .ok (.if_icmp .ge 16, 3) := zq_2s zo_162 zkX10_findOdds_0 6 rfl rfl 0 16 rfl rfl _ (by decide +kernel)
theorem dX10_findOdds_9 : decode cX10_findOdds 9 = .ok (.aload_n 0, 1) := zq_0 zo_42 zkX10_findOdds_0 9 rfl rfl
theorem dX10_findOdds_10 : decode cX10_findOdds 10 = .ok (.getfield 75, 3) := zq_2 zo_180 zkX10_findOdds_0 10 rfl rfl 0 75 rfl rfl _ rfl
theorem dX10_findOdds_13 : decode cX10_findOdds 13 = .ok (.iload_n 2, 1) := zq_0 zo_28 zkX10_findOdds_0 13 rfl rfl
theorem dX10_findOdds_14 : decode cX10_findOdds 14 = .ok (.lconst 0, 1) := zq_0 zo_9 zkX10_findOdds_0 14 rfl rfl
theorem dX10_findOdds_15 : decode cX10_findOdds 15 = .ok (.lastore, 1) := zq_0 zo_80 zkX10_findOdds_0 15 rfl rfl
theorem dX10_findOdds_16 : decode cX10_findOdds 16 = .ok (.iinc 2 1, 3) := zq_ii zo_132 zkX10_findOdds_0 16 rfl rfl 2 1 rfl rfl _ (by decide +kernel)
theorem dX10_findOdds_19 : decode cX10_findOdds 19 = .ok (.goto (-17), 3) := zq_2s zo_167 zkX10_findOdds_0 19 rfl rfl 255 239 rfl rfl _ (by decide +kernel)
theorem dX10_findOdds_22 : decode cX10_findOdds 22 = .ok (.aload_n 0, 1) := zq_0 zo_42 zkX10_findOdds_0 22 rfl rfl
theorem dX10_findOdds_23 : decode cX10_findOdds 23 = .ok (.getfield 75, 3) := zq_2 zo_180 zkX10_findOdds_0 23 rfl rfl 0 75 rfl rfl _ rfl
theorem dX10_findOdds_26 : decode cX10_findOdds 26 = .ok (.iconst 0, 1) := zq_0 zo_3 zkX10_findOdds_0 26 rfl rfl
theorem dX10_findOdds_27 : decode cX10_findOdds 27 = .ok (.lconst 1, 1) := zq_0 zo_10 zkX10_findOdds_0 27 rfl rfl
theorem dX10_findOdds_28 : decode cX10_findOdds 28 = .ok (.lastore, 1) := zq_0 zo_80 zkX10_findOdds_0 28 rfl rfl
theorem dX10_findOdds_29 : decode cX10_findOdds 29 = .ok (.aload_n 0, 1) := zq_0 zo_42 zkX10_findOdds_0 29 rfl rfl
theorem dX10_findOdds_30 : decode cX10_findOdds 30 = .ok (.lconst 1, 1) := zq_0 zo_10 zkX10_findOdds_0 30 rfl rfl
theorem dX10_findOdds_31 : decode cX10_findOdds 31 = .ok (.putfield 345, 3) := zq_2 zo_181 zkX10_findOdds_0 31 rfl rfl 1 89 rfl rfl _ rfl
theorem zkX10_findOdds_32 : zqc cX10_findOdds 32 [1, 89, 3, 61, 28, 27, 162, 0, 97, 42, 28, 6, 182, 0, 242, 62, 42, 89, 180, 1, 89, 20, 1, 92, 105, 181, 1, 89, 17, 4, 175, 54, 4, 21] := zq_of 34 (by decide +kernel)
theorem dX10_findOdds_34 : decode cX10_findOdds 34 = .ok (.iconst 0, 1) := zq_0 zo_3 zkX10_findOdds_32 2 rfl rfl
theorem dX10_findOdds_35 : decode cX10_findOdds 35 = .ok (.istore_n 2, 1) := zq_0 zo_61 zkX10_findOdds_32 3 rfl rfl
theorem dX10_findOdds_36 : decode cX10_findOdds 36 = .ok (.iload_n 2, 1) := zq_0 zo_28 zkX10_findOdds_32 4 rfl rfl
theorem dX10_findOdds_37 : decode cX10_findOdds 37 = .ok (.iload_n 1, 1) := zq_0 zo_27 zkX10_findOdds_32 5 rfl rfl
theorem dX10_findOdds_38 : decode cX10_findOdds 38 = .ok (.if_icmp .ge 97, 3) := zq_2s zo_162 zkX10_findOdds_32 6 rfl rfl 0 97 rfl rfl _ (by decide +kernel)
theorem dX10_findOdds_41 : decode cX10_findOdds 41 = .ok (.aload_n 0, 1) := zq_0 zo_42 zkX10_findOdds_32 9 rfl rfl
theorem dX10_findOdds_42 : decode cX10_findOdds 42 = .ok (.iload_n 2, 1) := zq_0 zo_28 zkX10_findOdds_32 10 rfl rfl
theorem dX10_findOdds_43 : decode cX10_findOdds 43 = .ok (.iconst 3, 1) := zq_0 zo_6 zkX10_findOdds_32 11 rfl rfl
theorem dX10_findOdds_44 : decode cX10_findOdds 44 = .ok (.invokevirtual 242, 3) := zq_2 zo_182 zkX10_findOdds_32 12 rfl rfl 0 242 rfl rfl _ rfl
theorem dX10_findOdds_47 : decode cX10_findOdds 47 = .ok (.istore_n 3, 1) := zq_0 zo_62 zkX10_findOdds_32 15 rfl rfl
theorem dX10_findOdds_48 : decode cX10_findOdds 48 = .ok (.aload_n 0, 1) := zq_0 zo_42 zkX10_findOdds_32 16 rfl rfl
theorem dX10_findOdds_49 : decode cX10_findOdds 49 = .ok (.dup, 1) := zq_0 zo_89 zkX10_findOdds_32 17 rfl rfl
theorem dX10_findOdds_50 : decode cX10_findOdds 50 = .ok (.getfield 345, 3) := zq_2 zo_180 zkX10_findOdds_32 18 rfl rfl 1 89 rfl rfl _ rfl
theorem dX10_findOdds_53 : decode cX10_findOdds 53 = .ok (.ldc2_w 348, 3) := zq_2 zo_20 zkX10_findOdds_32 21 rfl rfl 1 92 rfl rfl _ rfl
theorem dX10_findOdds_56 : decode cX10_findOdds 56 = .ok (.lmul, 1) := zq_0 zo_105 zkX10_findOdds_32 24 rfl rfl
theorem dX10_findOdds_57 : decode cX10_findOdds 57 = .ok (.putfield 345, 3) := zq_2 zo_181 zkX10_findOdds_32 25 rfl rfl 1 89 rfl rfl _ rfl
theorem dX10_findOdds_60 : decode cX10_findOdds 60 = .ok (.sipush 1199, 3) := zq_2s zo_17 zkX10_findOdds_32 28 rfl rfl 4 175 rfl rfl _ (by decide +kernel)
theorem dX10_findOdds_63 : decode cX10_findOdds 63 = .ok (.istore 4, 2) := zq_1 zo_54 zkX10_findOdds_32 31 rfl rfl 4 rfl
theorem zkX10_findOdds_64 : zqc cX10_findOdds 64 [4, 21, 4, 155, 0, 62, 42, 180, 0, 75, 21, 4, 42, 180, 0, 75, 21, 4, 47, 16, 10, 29, 100, 133, 105, 21, 4, 42, 180, 0, 50, 28, 46, 161] := zq_of 34 (by decide +kernel)
theorem dX10_findOdds_65 : decode cX10_findOdds 65 = .ok (.iload 4, 2) := zq_1 zo_21 zkX10_findOdds_64 1 rfl rfl 4 rfl
theorem dX10_findOdds_67 : decode cX10_findOdds 67 = .ok (.ifCond .lt 62, 3) := zq_2s zo_155 zkX10_findOdds_64 3 rfl rfl 0 62 rfl rfl _ (by decide +kernel)
theorem dX10_findOdds_70 : decode cX10_findOdds 70 = .ok (.aload_n 0, 1) := zq_0 zo_42 zkX10_findOdds_64 6 rfl rfl
theorem dX10_findOdds_71 : decode cX10_findOdds 71 = .ok (.getfield 75, 3) := zq_2 zo_180 zkX10_findOdds_64 7 rfl rfl 0 75 rfl rfl _ rfl
theorem dX10_findOdds_74 : decode cX10_findOdds 74 = .ok (.iload 4, 2) := zq_1 zo_21 zkX10_findOdds_64 10 rfl rfl 4 rfl
theorem dX10_findOdds_76 : decode cX10_findOdds 76 = .ok (.aload_n 0, 1) := zq_0 zo_42 zkX10_findOdds_64 12 rfl rfl
theorem dX10_findOdds_77 : decode cX10_findOdds 77 = .ok (.getfield 75, 3) := zq_2 zo_180 zkX10_findOdds_64 13 rfl rfl 0 75 rfl rfl _ rfl
theorem dX10_findOdds_80 : decode cX10_findOdds 80 = .ok (.iload 4, 2) := zq_1 zo_21 zkX10_findOdds_64 16 rfl rfl 4 rfl
theorem dX10_findOdds_82 : decode cX10_findOdds 82 = .ok (.laload, 1) := zq_0 zo_47 zkX10_findOdds_64 18 rfl rfl
theorem dX10_findOdds_83 : decode cX10_findOdds 83 = .ok (.bipush 10, 2) := zq_1s zo_16 zkX10_findOdds_64 19 rfl rfl 10 rfl _ (by decide +kernel)
theorem dX10_findOdds_85 : decode cX10_findOdds 85 = .ok (.iload_n 3, 1) := zq_0 zo_29 zkX10_findOdds_64 21 rfl rfl
theorem dX10_findOdds_86 : decode cX10_findOdds 86 = .ok (.isub, 1) := zq_0 zo_100 zkX10_findOdds_64 22 rfl rfl
theorem dX10_findOdds_87 : decode cX10_findOdds 87 = .ok (.i2l, 1) := zq_0 zo_133 zkX10_findOdds_64 23 rfl rfl
theorem dX10_findOdds_88 : decode cX10_findOdds 88 = .ok (.lmul, 1) := zq_0 zo_105 zkX10_findOdds_64 24 rfl rfl
theorem dX10_findOdds_89 : decode cX10_findOdds 89 = .ok (.iload 4, 2) := zq_1 zo_21 zkX10_findOdds_64 25 rfl rfl 4 rfl
theorem dX10_findOdds_91 : decode cX10_findOdds 91 = .ok (.aload_n 0, 1) := zq_0 zo_42 zkX10_findOdds_64 27 rfl rfl
theorem dX10_findOdds_92 : decode cX10_findOdds 92 = .ok (.getfield 50, 3) := zq_2 zo_180 zkX10_findOdds_64 28 rfl rfl 0 50 rfl rfl _ rfl
theorem dX10_findOdds_95 : decode cX10_findOdds 95 = .ok (.iload_n 2, 1) := zq_0 zo_28 zkX10_findOdds_64 31 rfl rfl
theorem zkX10_findOdds_96 : zqc cX10_findOdds 96 [46, 161, 0, 23, 42, 180, 0, 75, 21, 4, 42, 180, 0, 50, 28, 46, 100, 47, 29, 133, 105, 167, 0, 4, 9, 97, 80, 132, 4, 255, 167, 255, 195, 132] := zq_of 34 (by decide +kernel)
theorem dX10_findOdds_96 : decode cX10_findOdds 96 = .ok (.iaload, 1) := zq_0 zo_46 zkX10_findOdds_96 0 rfl rfl
theorem dX10_findOdds_97 : decode cX10_findOdds 97 = .ok (.if_icmp .lt 23, 3) := zq_2s zo_161 zkX10_findOdds_96 1 rfl rfl 0 23 rfl rfl _ (by decide +kernel)
theorem dX10_findOdds_100 : decode cX10_findOdds 100 = .ok (.aload_n 0, 1) := zq_0 zo_42 zkX10_findOdds_96 4 rfl rfl
theorem dX10_findOdds_101 : decode cX10_findOdds 101 = .ok (.getfield 75, 3) := zq_2 zo_180 zkX10_findOdds_96 5 rfl rfl 0 75 rfl rfl _ rfl
theorem dX10_findOdds_104 : decode cX10_findOdds 104 = .ok (.iload 4, 2) := zq_1 zo_21 zkX10_findOdds_96 8 rfl rfl 4 rfl
theorem dX10_findOdds_106 : decode cX10_findOdds 106 = .ok (.aload_n 0, 1) := zq_0 zo_42 zkX10_findOdds_96 10 rfl rfl
theorem dX10_findOdds_107 : decode cX10_findOdds 107 = .ok (.getfield 50, 3) := zq_2 zo_180 zkX10_findOdds_96 11 rfl rfl 0 50 rfl rfl _ rfl
theorem dX10_findOdds_110 : decode cX10_findOdds 110 = .ok (.iload_n 2, 1) := zq_0 zo_28 zkX10_findOdds_96 14 rfl rfl
theorem dX10_findOdds_111 : decode cX10_findOdds 111 = .ok (.iaload, 1) := zq_0 zo_46 zkX10_findOdds_96 15 rfl rfl
theorem dX10_findOdds_112 : decode cX10_findOdds 112 = .ok (.isub, 1) := zq_0 zo_100 zkX10_findOdds_96 16 rfl rfl
theorem dX10_findOdds_113 : decode cX10_findOdds 113 = .ok (.laload, 1) := zq_0 zo_47 zkX10_findOdds_96 17 rfl rfl
theorem dX10_findOdds_114 : decode cX10_findOdds 114 = .ok (.iload_n 3, 1) := zq_0 zo_29 zkX10_findOdds_96 18 rfl rfl
theorem dX10_findOdds_115 : decode cX10_findOdds 115 = .ok (.i2l, 1) := zq_0 zo_133 zkX10_findOdds_96 19 rfl rfl
theorem dX10_findOdds_116 : decode cX10_findOdds 116 = .ok (.lmul, 1) := zq_0 zo_105 zkX10_findOdds_96 20 rfl rfl
theorem dX10_findOdds_117 : decode cX10_findOdds 117 = .ok (.goto 4, 3) := zq_2s zo_167 zkX10_findOdds_96 21 rfl rfl 0 4 rfl rfl _ (by decide +kernel)
theorem dX10_findOdds_120 : decode cX10_findOdds 120 = .ok (.lconst 0, 1) := zq_0 zo_9 zkX10_findOdds_96 24 rfl rfl
theorem dX10_findOdds_121 : decode cX10_findOdds 121 = .ok (.ladd, 1) := zq_0 zo_97 zkX10_findOdds_96 25 rfl rfl
theorem dX10_findOdds_122 : decode cX10_findOdds 122 = .ok (.lastore, 1) := zq_0 zo_80 zkX10_findOdds_96 26 rfl rfl
theorem dX10_findOdds_123 : decode cX10_findOdds 123 = .ok (.iinc 4 (-1), 3) := zq_ii zo_132 zkX10_findOdds_96 27 rfl rfl 4 255 rfl rfl _ (by decide +kernel)
theorem dX10_findOdds_126 : decode cX10_findOdds 126 = .ok (.goto (-61), 3) := zq_2s zo_167 zkX10_findOdds_96 30 rfl rfl 255 195 rfl rfl _ (by decide +kernel)
theorem zkX10_findOdds_128 : zqc cX10_findOdds 128 [195, 132, 2, 1, 167, 255, 160, 177] := zq_of 8 (by decide +kernel)
theorem dX10_findOdds_129 : decode cX10_findOdds 129 = .ok (.iinc 2 1, 3) := zq_ii zo_132 zkX10_findOdds_128 1 rfl rfl 2 1 rfl rfl _ (by decide +kernel)
theorem dX10_findOdds_132 : decode cX10_findOdds 132 = .ok (.goto (-96), 3) := zq_2s zo_167 zkX10_findOdds_128 4 rfl rfl 255 160 rfl rfl _ (by decide +kernel)
theorem dX10_findOdds_135 : decode cX10_findOdds 135 = .ok (.return_, 1) := zq_0 zo_177 zkX10_findOdds_128 7 rfl rfl
theorem zkX10_common_0 : zqc cX10_common 0 [30, 55, 4, 32, 55, 6, 22, 6, 9, 148, 153, 0, 21, 22, 4, 22, 6, 113, 55, 8, 22, 6, 55, 4, 22, 8, 55, 6, 167, 255, 234, 22, 4, 173] := zq_of 34 (by decide +kernel)
theorem dX10_common_0 : decode cX10_common 0 = .ok (.lload_n 0, 1) := zq_0 zo_30 zkX10_common_0 0 rfl rfl
theorem dX10_common_1 : decode cX10_common 1 = .ok (.lstore 4, 2) := zq_1 zo_55 zkX10_common_0 1 rfl rfl 4 rfl
theorem dX10_common_3 : decode cX10_common 3 = .ok (.lload_n 2, 1) := zq_0 zo_32 zkX10_common_0 3 rfl rfl
theorem dX10_common_4 : decode cX10_common 4 = .ok (.lstore 6, 2) := zq_1 zo_55 zkX10_common_0 4 rfl rfl 6 rfl
theorem dX10_common_6 : decode cX10_common 6 = .ok (.lload 6, 2) := zq_1 zo_22 zkX10_common_0 6 rfl rfl 6 rfl
theorem dX10_common_8 : decode cX10_common 8 = .ok (.lconst 0, 1) := zq_0 zo_9 zkX10_common_0 8 rfl rfl
theorem dX10_common_9 : decode cX10_common 9 = .ok (.lcmp, 1) := zq_0 zo_148 zkX10_common_0 9 rfl rfl
theorem dX10_common_10 : decode cX10_common 10 = .ok (.ifCond .eq 21, 3) := zq_2s zo_153 zkX10_common_0 10 rfl rfl 0 21 rfl rfl _ (by decide +kernel)
theorem dX10_common_13 : decode cX10_common 13 = .ok (.lload 4, 2) := zq_1 zo_22 zkX10_common_0 13 rfl rfl 4 rfl
theorem dX10_common_15 : decode cX10_common 15 = .ok (.lload 6, 2) := zq_1 zo_22 zkX10_common_0 15 rfl rfl 6 rfl
theorem dX10_common_17 : decode cX10_common 17 = .ok (.lrem, 1) := zq_0 zo_113 zkX10_common_0 17 rfl rfl
theorem dX10_common_18 : decode cX10_common 18 = .ok (.lstore 8, 2) := zq_1 zo_55 zkX10_common_0 18 rfl rfl 8 rfl
theorem dX10_common_20 : decode cX10_common 20 = .ok (.lload 6, 2) := zq_1 zo_22 zkX10_common_0 20 rfl rfl 6 rfl
theorem dX10_common_22 : decode cX10_common 22 = .ok (.lstore 4, 2) := zq_1 zo_55 zkX10_common_0 22 rfl rfl 4 rfl
theorem dX10_common_24 : decode cX10_common 24 = .ok (.lload 8, 2) := zq_1 zo_22 zkX10_common_0 24 rfl rfl 8 rfl
theorem dX10_common_26 : decode cX10_common 26 = .ok (.lstore 6, 2) := zq_1 zo_55 zkX10_common_0 26 rfl rfl 6 rfl
theorem dX10_common_28 : decode cX10_common 28 = .ok (.goto (-22), 3) := zq_2s zo_167 zkX10_common_0 28 rfl rfl 255 234 rfl rfl _ (by decide +kernel)
theorem dX10_common_31 : decode cX10_common 31 = .ok (.lload 4, 2) := zq_1 zo_22 zkX10_common_0 31 rfl rfl 4 rfl
theorem zkX10_common_32 : zqc cX10_common 32 [4, 173] := zq_of 2 (by decide +kernel)
theorem dX10_common_33 : decode cX10_common 33 = .ok (.lreturn, 1) := zq_0 zo_173 zkX10_common_32 1 rfl rfl
theorem zkX10_part_0 : zqc cX10_part 0 [30, 32, 184, 1, 94, 55, 5, 21, 4, 153, 0, 10, 32, 22, 5, 109, 167, 0, 7, 30, 22, 5, 109, 173] := zq_of 24 (by decide +kernel)
theorem dX10_part_0 : decode cX10_part 0 = .ok (.lload_n 0, 1) := zq_0 zo_30 zkX10_part_0 0 rfl rfl
theorem dX10_part_1 : decode cX10_part 1 = .ok (.lload_n 2, 1) := zq_0 zo_32 zkX10_part_0 1 rfl rfl
theorem dX10_part_2 : decode cX10_part 2 = .ok (.invokestatic 350, 3) := zq_2 zo_184 zkX10_part_0 2 rfl rfl 1 94 rfl rfl _ rfl
theorem dX10_part_5 : decode cX10_part 5 = .ok (.lstore 5, 2) := zq_1 zo_55 zkX10_part_0 5 rfl rfl 5 rfl
theorem dX10_part_7 : decode cX10_part 7 = .ok (.iload 4, 2) := zq_1 zo_21 zkX10_part_0 7 rfl rfl 4 rfl
theorem dX10_part_9 : decode cX10_part 9 = .ok (.ifCond .eq 10, 3) := zq_2s zo_153 zkX10_part_0 9 rfl rfl 0 10 rfl rfl _ (by decide +kernel)
theorem dX10_part_12 : decode cX10_part 12 = .ok (.lload_n 2, 1) := zq_0 zo_32 zkX10_part_0 12 rfl rfl
theorem dX10_part_13 : decode cX10_part 13 = .ok (.lload 5, 2) := zq_1 zo_22 zkX10_part_0 13 rfl rfl 5 rfl
theorem dX10_part_15 : decode cX10_part 15 = .ok (.ldiv, 1) := zq_0 zo_109 zkX10_part_0 15 rfl rfl
theorem dX10_part_16 : decode cX10_part 16 = .ok (.goto 7, 3) := zq_2s zo_167 zkX10_part_0 16 rfl rfl 0 7 rfl rfl _ (by decide +kernel)
theorem dX10_part_19 : decode cX10_part 19 = .ok (.lload_n 0, 1) := zq_0 zo_30 zkX10_part_0 19 rfl rfl
theorem dX10_part_20 : decode cX10_part 20 = .ok (.lload 5, 2) := zq_1 zo_22 zkX10_part_0 20 rfl rfl 5 rfl
theorem dX10_part_22 : decode cX10_part 22 = .ok (.ldiv, 1) := zq_0 zo_109 zkX10_part_0 22 rfl rfl
theorem dX10_part_23 : decode cX10_part 23 = .ok (.lreturn, 1) := zq_0 zo_173 zkX10_part_0 23 rfl rfl
theorem zkX10_chance_0 : zqc cX10_chance 0 [42, 3, 181, 0, 91, 28, 2, 17, 3, 231, 184, 0, 103, 153, 0, 12, 42, 27, 3, 182, 1, 1, 154, 0, 7, 20, 1, 98, 173, 9, 55, 4, 28, 2] := zq_of 34 (by decide +kernel)
theorem dX10_chance_0 : decode cX10_chance 0 = .ok (.aload_n 0, 1) := zq_0 zo_42 zkX10_chance_0 0 rfl rfl
theorem dX10_chance_1 : decode cX10_chance 1 = .ok (.iconst 0, 1) := zq_0 zo_3 zkX10_chance_0 1 rfl rfl
theorem dX10_chance_2 : decode cX10_chance 2 = .ok (.putfield 91, 3) := zq_2 zo_181 zkX10_chance_0 2 rfl rfl 0 91 rfl rfl _ rfl
theorem dX10_chance_5 : decode cX10_chance 5 = .ok (.iload_n 2, 1) := zq_0 zo_28 zkX10_chance_0 5 rfl rfl
theorem dX10_chance_6 : decode cX10_chance 6 = .ok (.iconst (-1), 1) := zq_0 zo_2 zkX10_chance_0 6 rfl rfl
theorem dX10_chance_7 : decode cX10_chance 7 = .ok (.sipush 999, 3) := zq_2s zo_17 zkX10_chance_0 7 rfl rfl 3 231 rfl rfl _ (by decide +kernel)
theorem dX10_chance_10 : decode cX10_chance 10 = .ok (.invokestatic 103, 3) := zq_2 zo_184 zkX10_chance_0 10 rfl rfl 0 103 rfl rfl _ rfl
theorem dX10_chance_13 : decode cX10_chance 13 = .ok (.ifCond .eq 12, 3) := zq_2s zo_153 zkX10_chance_0 13 rfl rfl 0 12 rfl rfl _ (by decide +kernel)
theorem dX10_chance_16 : decode cX10_chance 16 = .ok (.aload_n 0, 1) := zq_0 zo_42 zkX10_chance_0 16 rfl rfl
theorem dX10_chance_17 : decode cX10_chance 17 = .ok (.iload_n 1, 1) := zq_0 zo_27 zkX10_chance_0 17 rfl rfl
theorem dX10_chance_18 : decode cX10_chance 18 = .ok (.iconst 0, 1) := zq_0 zo_3 zkX10_chance_0 18 rfl rfl
theorem dX10_chance_19 : decode cX10_chance 19 = .ok (.invokevirtual 257, 3) := zq_2 zo_182 zkX10_chance_0 19 rfl rfl 1 1 rfl rfl _ rfl
theorem dX10_chance_22 : decode cX10_chance 22 = .ok (.ifCond .ne 7, 3) := zq_2s zo_154 zkX10_chance_0 22 rfl rfl 0 7 rfl rfl _ (by decide +kernel)
theorem dX10_chance_25 : decode cX10_chance 25 = .ok (.ldc2_w 354, 3) := zq_2 zo_20 zkX10_chance_0 25 rfl rfl 1 98 rfl rfl _ rfl
theorem dX10_chance_28 : decode cX10_chance 28 = .ok (.lreturn, 1) := zq_0 zo_173 zkX10_chance_0 28 rfl rfl
theorem dX10_chance_29 : decode cX10_chance 29 = .ok (.lconst 0, 1) := zq_0 zo_9 zkX10_chance_0 29 rfl rfl
theorem dX10_chance_30 : decode cX10_chance 30 = .ok (.lstore 4, 2) := zq_1 zo_55 zkX10_chance_0 30 rfl rfl 4 rfl
theorem zkX10_chance_32 : zqc cX10_chance 32 [28, 2, 160, 0, 53, 3, 54, 6, 21, 6, 42, 180, 0, 248, 162, 0, 31, 22, 4, 42, 180, 0, 50, 21, 6, 46, 133, 42, 21, 6, 6, 182, 0, 242] := zq_of 34 (by decide +kernel)
theorem dX10_chance_32 : decode cX10_chance 32 = .ok (.iload_n 2, 1) := zq_0 zo_28 zkX10_chance_32 0 rfl rfl
theorem dX10_chance_33 : decode cX10_chance 33 = .ok (.iconst (-1), 1) := zq_0 zo_2 zkX10_chance_32 1 rfl rfl
theorem dX10_chance_34 : decode cX10_chance 34 = .ok (.if_icmp .ne 53, 3) := zq_2s zo_160 zkX10_chance_32 2 rfl rfl 0 53 rfl rfl _ (by decide +kernel)
theorem dX10_chance_37 : decode cX10_chance 37 = .ok (.iconst 0, 1) := zq_0 zo_3 zkX10_chance_32 5 rfl rfl
theorem dX10_chance_38 : decode cX10_chance 38 = .ok (.istore 6, 2) := zq_1 zo_54 zkX10_chance_32 6 rfl rfl 6 rfl
theorem dX10_chance_40 : decode cX10_chance 40 = .ok (.iload 6, 2) := zq_1 zo_21 zkX10_chance_32 8 rfl rfl 6 rfl
theorem dX10_chance_42 : decode cX10_chance 42 = .ok (.aload_n 0, 1) := zq_0 zo_42 zkX10_chance_32 10 rfl rfl
theorem dX10_chance_43 : decode cX10_chance 43 = .ok (.getfield 248, 3) := zq_2 zo_180 zkX10_chance_32 11 rfl rfl 0 248 rfl rfl _ rfl
theorem dX10_chance_46 : decode cX10_chance 46 = .ok (.if_icmp .ge 31, 3) := zq_2s zo_162 zkX10_chance_32 14 rfl rfl 0 31 rfl rfl _ (by decide +kernel)
theorem dX10_chance_49 : decode cX10_chance 49 = .ok (.lload 4, 2) := zq_1 zo_22 zkX10_chance_32 17 rfl rfl 4 rfl
theorem dX10_chance_51 : decode cX10_chance 51 = .ok (.aload_n 0, 1) := zq_0 zo_42 zkX10_chance_32 19 rfl rfl
theorem dX10_chance_52 : decode cX10_chance 52 = .ok (.getfield 50, 3) := zq_2 zo_180 zkX10_chance_32 20 rfl rfl 0 50 rfl rfl _ rfl
theorem dX10_chance_55 : decode cX10_chance 55 = .ok (.iload 6, 2) := zq_1 zo_21 zkX10_chance_32 23 rfl rfl 6 rfl
theorem dX10_chance_57 : decode cX10_chance 57 = .ok (.iaload, 1) := zq_0 zo_46 zkX10_chance_32 25 rfl rfl
theorem dX10_chance_58 : decode cX10_chance 58 = .ok (.i2l, 1) := zq_0 zo_133 zkX10_chance_32 26 rfl rfl
theorem dX10_chance_59 : decode cX10_chance 59 = .ok (.aload_n 0, 1) := zq_0 zo_42 zkX10_chance_32 27 rfl rfl
theorem dX10_chance_60 : decode cX10_chance 60 = .ok (.iload 6, 2) := zq_1 zo_21 zkX10_chance_32 28 rfl rfl 6 rfl
theorem dX10_chance_62 : decode cX10_chance 62 = .ok (.iconst 3, 1) := zq_0 zo_6 zkX10_chance_32 30 rfl rfl
theorem dX10_chance_63 : decode cX10_chance 63 = .ok (.invokevirtual 242, 3) := zq_2 zo_182 zkX10_chance_32 31 rfl rfl 0 242 rfl rfl _ rfl
theorem zkX10_chance_64 : zqc cX10_chance 64 [0, 242, 133, 105, 97, 55, 4, 132, 6, 1, 167, 255, 222, 22, 4, 20, 1, 92, 29, 184, 1, 100, 173, 42, 42, 180, 0, 248, 182, 1, 104, 3, 54, 6] := zq_of 34 (by decide +kernel)
theorem dX10_chance_66 : decode cX10_chance 66 = .ok (.i2l, 1) := zq_0 zo_133 zkX10_chance_64 2 rfl rfl
theorem dX10_chance_67 : decode cX10_chance 67 = .ok (.lmul, 1) := zq_0 zo_105 zkX10_chance_64 3 rfl rfl
theorem dX10_chance_68 : decode cX10_chance 68 = .ok (.ladd, 1) := zq_0 zo_97 zkX10_chance_64 4 rfl rfl
theorem dX10_chance_69 : decode cX10_chance 69 = .ok (.lstore 4, 2) := zq_1 zo_55 zkX10_chance_64 5 rfl rfl 4 rfl
theorem dX10_chance_71 : decode cX10_chance 71 = .ok (.iinc 6 1, 3) := zq_ii zo_132 zkX10_chance_64 7 rfl rfl 6 1 rfl rfl _ (by decide +kernel)
theorem dX10_chance_74 : decode cX10_chance 74 = .ok (.goto (-34), 3) := zq_2s zo_167 zkX10_chance_64 10 rfl rfl 255 222 rfl rfl _ (by decide +kernel)
theorem dX10_chance_77 : decode cX10_chance 77 = .ok (.lload 4, 2) := zq_1 zo_22 zkX10_chance_64 13 rfl rfl 4 rfl
theorem dX10_chance_79 : decode cX10_chance 79 = .ok (.ldc2_w 348, 3) := zq_2 zo_20 zkX10_chance_64 15 rfl rfl 1 92 rfl rfl _ rfl
theorem dX10_chance_82 : decode cX10_chance 82 = .ok (.iload_n 3, 1) := zq_0 zo_29 zkX10_chance_64 18 rfl rfl
theorem dX10_chance_83 : decode cX10_chance 83 = .ok (.invokestatic 356, 3) := zq_2 zo_184 zkX10_chance_64 19 rfl rfl 1 100 rfl rfl _ rfl
theorem dX10_chance_86 : decode cX10_chance 86 = .ok (.lreturn, 1) := zq_0 zo_173 zkX10_chance_64 22 rfl rfl
theorem dX10_chance_87 : decode cX10_chance 87 = .ok (.aload_n 0, 1) := zq_0 zo_42 zkX10_chance_64 23 rfl rfl
theorem dX10_chance_88 : decode cX10_chance 88 = .ok (.aload_n 0, 1) := zq_0 zo_42 zkX10_chance_64 24 rfl rfl
theorem dX10_chance_89 : decode cX10_chance 89 = .ok (.getfield 248, 3) := zq_2 zo_180 zkX10_chance_64 25 rfl rfl 0 248 rfl rfl _ rfl
theorem dX10_chance_92 : decode cX10_chance 92 = .ok (.invokevirtual 360, 3) := zq_2 zo_182 zkX10_chance_64 28 rfl rfl 1 104 rfl rfl _ rfl
theorem dX10_chance_95 : decode cX10_chance 95 = .ok (.iconst 0, 1) := zq_0 zo_3 zkX10_chance_64 31 rfl rfl
theorem zkX10_chance_96 : zqc cX10_chance 96 [54, 6, 21, 6, 28, 163, 0, 21, 22, 4, 42, 180, 0, 75, 21, 6, 47, 97, 55, 4, 132, 6, 1, 167, 255, 235, 22, 4, 42, 180, 1, 89, 29, 184] := zq_of 34 (by decide +kernel)
theorem dX10_chance_96 : decode cX10_chance 96 = .ok (.istore 6, 2) := zq_1 zo_54 zkX10_chance_96 0 rfl rfl 6 rfl
theorem dX10_chance_98 : decode cX10_chance 98 = .ok (.iload 6, 2) := zq_1 zo_21 zkX10_chance_96 2 rfl rfl 6 rfl
theorem dX10_chance_100 : decode cX10_chance 100 = .ok (.iload_n 2, 1) := zq_0 zo_28 zkX10_chance_96 4 rfl rfl
theorem dX10_chance_101 : decode cX10_chance 101 = .ok (.if_icmp .gt 21, 3) := zq_2s zo_163 zkX10_chance_96 5 rfl rfl 0 21 rfl rfl _ (by decide +kernel)
theorem dX10_chance_104 : decode cX10_chance 104 = .ok (.lload 4, 2) := zq_1 zo_22 zkX10_chance_96 8 rfl rfl 4 rfl
theorem dX10_chance_106 : decode cX10_chance 106 = .ok (.aload_n 0, 1) := zq_0 zo_42 zkX10_chance_96 10 rfl rfl
theorem dX10_chance_107 : decode cX10_chance 107 = .ok (.getfield 75, 3) := zq_2 zo_180 zkX10_chance_96 11 rfl rfl 0 75 rfl rfl _ rfl
theorem dX10_chance_110 : decode cX10_chance 110 = .ok (.iload 6, 2) := zq_1 zo_21 zkX10_chance_96 14 rfl rfl 6 rfl
theorem dX10_chance_112 : decode cX10_chance 112 = .ok (.laload, 1) := zq_0 zo_47 zkX10_chance_96 16 rfl rfl
theorem dX10_chance_113 : decode cX10_chance 113 = .ok (.ladd, 1) := zq_0 zo_97 zkX10_chance_96 17 rfl rfl
theorem dX10_chance_114 : decode cX10_chance 114 = .ok (.lstore 4, 2) := zq_1 zo_55 zkX10_chance_96 18 rfl rfl 4 rfl
theorem dX10_chance_116 : decode cX10_chance 116 = .ok (.iinc 6 1, 3) := zq_ii zo_132 zkX10_chance_96 20 rfl rfl 6 1 rfl rfl _ (by decide +kernel)
theorem dX10_chance_119 : decode cX10_chance 119 = .ok (.goto (-21), 3) := zq_2s zo_167 zkX10_chance_96 23 rfl rfl 255 235 rfl rfl _ (by decide +kernel)
theorem dX10_chance_122 : decode cX10_chance 122 = .ok (.lload 4, 2) := zq_1 zo_22 zkX10_chance_96 26 rfl rfl 4 rfl
theorem dX10_chance_124 : decode cX10_chance 124 = .ok (.aload_n 0, 1) := zq_0 zo_42 zkX10_chance_96 28 rfl rfl
theorem dX10_chance_125 : decode cX10_chance 125 = .ok (.getfield 345, 3) := zq_2 zo_180 zkX10_chance_96 29 rfl rfl 1 89 rfl rfl _ rfl
theorem zkX10_chance_128 : zqc cX10_chance 128 [29, 184, 1, 100, 173] := zq_of 5 (by decide +kernel)
theorem dX10_chance_128 : decode cX10_chance 128 = .ok (.iload_n 3, 1) := zq_0 zo_29 zkX10_chance_128 0 rfl rfl
theorem dX10_chance_129 : decode cX10_chance 129 = .ok (.invokestatic 356, 3) := zq_2 zo_184 zkX10_chance_128 1 rfl rfl 1 100 rfl rfl _ rfl
theorem dX10_chance_132 : decode cX10_chance 132 = .ok (.lreturn, 1) := zq_0 zo_173 zkX10_chance_128 4 rfl rfl
theorem zkX10_enough_0 : zqc cX10_enough 0 [42, 180, 0, 75, 3, 47, 65, 3, 54, 4, 32, 20, 1, 107, 105, 42, 180, 1, 89, 27, 133, 105, 148, 156, 0, 19, 132, 4, 1, 32, 42, 180, 0, 75] := zq_of 34 (by decide +kernel)
theorem dX10_enough_0 : decode cX10_enough 0 = .ok (.aload_n 0, 1) := zq_0 zo_42 zkX10_enough_0 0 rfl rfl
theorem dX10_enough_1 : decode cX10_enough 1 = .ok (.getfield 75, 3) := zq_2 zo_180 zkX10_enough_0 1 rfl rfl 0 75 rfl rfl _ rfl
theorem dX10_enough_4 : decode cX10_enough 4 = .ok (.iconst 0, 1) := zq_0 zo_3 zkX10_enough_0 4 rfl rfl
theorem dX10_enough_5 : decode cX10_enough 5 = .ok (.laload, 1) := zq_0 zo_47 zkX10_enough_0 5 rfl rfl
theorem dX10_enough_6 : decode cX10_enough 6 = .ok (.lstore_n 2, 1) := zq_0 zo_65 zkX10_enough_0 6 rfl rfl
theorem dX10_enough_7 : decode cX10_enough 7 = .ok (.iconst 0, 1) := zq_0 zo_3 zkX10_enough_0 7 rfl rfl
theorem dX10_enough_8 : decode cX10_enough 8 = .ok (.istore 4, 2) := zq_1 zo_54 zkX10_enough_0 8 rfl rfl 4 rfl
theorem dX10_enough_10 : decode cX10_enough 10 = .ok (.lload_n 2, 1) := zq_0 zo_32 zkX10_enough_0 10 rfl rfl
theorem dX10_enough_11 : decode cX10_enough 11 = .ok (.ldc2_w 363, 3) := zq_2 zo_20 zkX10_enough_0 11 rfl rfl 1 107 rfl rfl _ rfl
theorem dX10_enough_14 : decode cX10_enough 14 = .ok (.lmul, 1) := zq_0 zo_105 zkX10_enough_0 14 rfl rfl
theorem dX10_enough_15 : decode cX10_enough 15 = .ok (.aload_n 0, 1) := zq_0 zo_42 zkX10_enough_0 15 rfl rfl
theorem dX10_enough_16 : decode cX10_enough 16 = .ok (.getfield 345, 3) := zq_2 zo_180 zkX10_enough_0 16 rfl rfl 1 89 rfl rfl _ rfl
theorem dX10_enough_19 : decode cX10_enough 19 = .ok (.iload_n 1, 1) := zq_0 zo_27 zkX10_enough_0 19 rfl rfl
theorem dX10_enough_20 : decode cX10_enough 20 = .ok (.i2l, 1) := zq_0 zo_133 zkX10_enough_0 20 rfl rfl
theorem dX10_enough_21 : decode cX10_enough 21 = .ok (.lmul, 1) := zq_0 zo_105 zkX10_enough_0 21 rfl rfl
theorem dX10_enough_22 : decode cX10_enough 22 = .ok (.lcmp, 1) := zq_0 zo_148 zkX10_enough_0 22 rfl rfl
theorem dX10_enough_23 : decode cX10_enough 23 = .ok (.ifCond .ge 19, 3) := zq_2s zo_156 zkX10_enough_0 23 rfl rfl 0 19 rfl rfl _ (by decide +kernel)
theorem dX10_enough_26 : decode cX10_enough 26 = .ok (.iinc 4 1, 3) := zq_ii zo_132 zkX10_enough_0 26 rfl rfl 4 1 rfl rfl _ (by decide +kernel)
theorem dX10_enough_29 : decode cX10_enough 29 = .ok (.lload_n 2, 1) := zq_0 zo_32 zkX10_enough_0 29 rfl rfl
theorem dX10_enough_30 : decode cX10_enough 30 = .ok (.aload_n 0, 1) := zq_0 zo_42 zkX10_enough_0 30 rfl rfl
theorem dX10_enough_31 : decode cX10_enough 31 = .ok (.getfield 75, 3) := zq_2 zo_180 zkX10_enough_0 31 rfl rfl 0 75 rfl rfl _ rfl
theorem zkX10_enough_32 : zqc cX10_enough 32 [0, 75, 21, 4, 47, 97, 65, 167, 255, 227, 21, 4, 172] := zq_of 13 (by decide +kernel)
theorem dX10_enough_34 : decode cX10_enough 34 = .ok (.iload 4, 2) := zq_1 zo_21 zkX10_enough_32 2 rfl rfl 4 rfl
theorem dX10_enough_36 : decode cX10_enough 36 = .ok (.laload, 1) := zq_0 zo_47 zkX10_enough_32 4 rfl rfl
theorem dX10_enough_37 : decode cX10_enough 37 = .ok (.ladd, 1) := zq_0 zo_97 zkX10_enough_32 5 rfl rfl
theorem dX10_enough_38 : decode cX10_enough 38 = .ok (.lstore_n 2, 1) := zq_0 zo_65 zkX10_enough_32 6 rfl rfl
theorem dX10_enough_39 : decode cX10_enough 39 = .ok (.goto (-29), 3) := zq_2s zo_167 zkX10_enough_32 7 rfl rfl 255 227 rfl rfl _ (by decide +kernel)
theorem dX10_enough_42 : decode cX10_enough 42 = .ok (.iload 4, 2) := zq_1 zo_21 zkX10_enough_32 10 rfl rfl 4 rfl
theorem dX10_enough_44 : decode cX10_enough 44 = .ok (.ireturn, 1) := zq_0 zo_172 zkX10_enough_32 12 rfl rfl
theorem zkX10_slack_0 : zqc cX10_slack 0 [42, 3, 181, 0, 91, 28, 3, 16, 100, 184, 0, 103, 153, 0, 12, 42, 27, 3, 182, 1, 1, 154, 0, 5, 2, 172, 42, 42, 180, 0, 248, 182, 1, 104] := zq_of 34 (by decide +kernel)
theorem dX10_slack_0 : decode cX10_slack 0 = .ok (.aload_n 0, 1) := zq_0 zo_42 zkX10_slack_0 0 rfl rfl
theorem dX10_slack_1 : decode cX10_slack 1 = .ok (.iconst 0, 1) := zq_0 zo_3 zkX10_slack_0 1 rfl rfl
theorem dX10_slack_2 : decode cX10_slack 2 = .ok (.putfield 91, 3) := zq_2 zo_181 zkX10_slack_0 2 rfl rfl 0 91 rfl rfl _ rfl
theorem dX10_slack_5 : decode cX10_slack 5 = .ok (.iload_n 2, 1) := zq_0 zo_28 zkX10_slack_0 5 rfl rfl
theorem dX10_slack_6 : decode cX10_slack 6 = .ok (.iconst 0, 1) := zq_0 zo_3 zkX10_slack_0 6 rfl rfl
theorem dX10_slack_7 : decode cX10_slack 7 = .ok (.bipush 100, 2) := zq_1s zo_16 zkX10_slack_0 7 rfl rfl 100 rfl _ (by decide +kernel)
theorem dX10_slack_9 : decode cX10_slack 9 = .ok (.invokestatic 103, 3) := zq_2 zo_184 zkX10_slack_0 9 rfl rfl 0 103 rfl rfl _ rfl
theorem dX10_slack_12 : decode cX10_slack 12 = .ok (.ifCond .eq 12, 3) := zq_2s zo_153 zkX10_slack_0 12 rfl rfl 0 12 rfl rfl _ (by decide +kernel)
theorem dX10_slack_15 : decode cX10_slack 15 = .ok (.aload_n 0, 1) := zq_0 zo_42 zkX10_slack_0 15 rfl rfl
theorem dX10_slack_16 : decode cX10_slack 16 = .ok (.iload_n 1, 1) := zq_0 zo_27 zkX10_slack_0 16 rfl rfl
theorem dX10_slack_17 : decode cX10_slack 17 = .ok (.iconst 0, 1) := zq_0 zo_3 zkX10_slack_0 17 rfl rfl
theorem dX10_slack_18 : decode cX10_slack 18 = .ok (.invokevirtual 257, 3) := zq_2 zo_182 zkX10_slack_0 18 rfl rfl 1 1 rfl rfl _ rfl
theorem dX10_slack_21 : decode cX10_slack 21 = .ok (.ifCond .ne 5, 3) := zq_2s zo_154 zkX10_slack_0 21 rfl rfl 0 5 rfl rfl _ (by decide +kernel)
theorem dX10_slack_24 : decode cX10_slack 24 = .ok (.iconst (-1), 1) := zq_0 zo_2 zkX10_slack_0 24 rfl rfl
theorem dX10_slack_25 : decode cX10_slack 25 = .ok (.ireturn, 1) := zq_0 zo_172 zkX10_slack_0 25 rfl rfl
theorem dX10_slack_26 : decode cX10_slack 26 = .ok (.aload_n 0, 1) := zq_0 zo_42 zkX10_slack_0 26 rfl rfl
theorem dX10_slack_27 : decode cX10_slack 27 = .ok (.aload_n 0, 1) := zq_0 zo_42 zkX10_slack_0 27 rfl rfl
theorem dX10_slack_28 : decode cX10_slack 28 = .ok (.getfield 248, 3) := zq_2 zo_180 zkX10_slack_0 28 rfl rfl 0 248 rfl rfl _ rfl
theorem dX10_slack_31 : decode cX10_slack 31 = .ok (.invokevirtual 360, 3) := zq_2 zo_182 zkX10_slack_0 31 rfl rfl 1 104 rfl rfl _ rfl
theorem zkX10_slack_32 : zqc cX10_slack 32 [1, 104, 42, 28, 182, 1, 109, 172] := zq_of 8 (by decide +kernel)
theorem dX10_slack_34 : decode cX10_slack 34 = .ok (.aload_n 0, 1) := zq_0 zo_42 zkX10_slack_32 2 rfl rfl
theorem dX10_slack_35 : decode cX10_slack 35 = .ok (.iload_n 2, 1) := zq_0 zo_28 zkX10_slack_32 3 rfl rfl
theorem dX10_slack_36 : decode cX10_slack 36 = .ok (.invokevirtual 365, 3) := zq_2 zo_182 zkX10_slack_32 4 rfl rfl 1 109 rfl rfl _ rfl
theorem dX10_slack_39 : decode cX10_slack 39 = .ok (.ireturn, 1) := zq_0 zo_172 zkX10_slack_32 7 rfl rfl
theorem zkX10_shells_0 : zqc cX10_shells 0 [42, 3, 181, 0, 91, 21, 5, 3, 5, 184, 0, 103, 153, 0, 12, 42, 27, 28, 182, 1, 1, 154, 0, 5, 2, 172, 42, 182, 1, 70, 54, 6, 3, 54] := zq_of 34 (by decide +kernel)
theorem dX10_shells_0 : decode cX10_shells 0 = .ok (.aload_n 0, 1) := zq_0 zo_42 zkX10_shells_0 0 rfl rfl
theorem dX10_shells_1 : decode cX10_shells 1 = .ok (.iconst 0, 1) := zq_0 zo_3 zkX10_shells_0 1 rfl rfl
theorem dX10_shells_2 : decode cX10_shells 2 = .ok (.putfield 91, 3) := zq_2 zo_181 zkX10_shells_0 2 rfl rfl 0 91 rfl rfl _ rfl
theorem dX10_shells_5 : decode cX10_shells 5 = .ok (.iload 5, 2) := zq_1 zo_21 zkX10_shells_0 5 rfl rfl 5 rfl
theorem dX10_shells_7 : decode cX10_shells 7 = .ok (.iconst 0, 1) := zq_0 zo_3 zkX10_shells_0 7 rfl rfl
theorem dX10_shells_8 : decode cX10_shells 8 = .ok (.iconst 2, 1) := zq_0 zo_5 zkX10_shells_0 8 rfl rfl
theorem dX10_shells_9 : decode cX10_shells 9 = .ok (.invokestatic 103, 3) := zq_2 zo_184 zkX10_shells_0 9 rfl rfl 0 103 rfl rfl _ rfl
theorem dX10_shells_12 : decode cX10_shells 12 = .ok (.ifCond .eq 12, 3) := zq_2s zo_153 zkX10_shells_0 12 rfl rfl 0 12 rfl rfl _ (by decide +kernel)
theorem dX10_shells_15 : decode cX10_shells 15 = .ok (.aload_n 0, 1) := zq_0 zo_42 zkX10_shells_0 15 rfl rfl
theorem dX10_shells_16 : decode cX10_shells 16 = .ok (.iload_n 1, 1) := zq_0 zo_27 zkX10_shells_0 16 rfl rfl
theorem dX10_shells_17 : decode cX10_shells 17 = .ok (.iload_n 2, 1) := zq_0 zo_28 zkX10_shells_0 17 rfl rfl
theorem dX10_shells_18 : decode cX10_shells 18 = .ok (.invokevirtual 257, 3) := zq_2 zo_182 zkX10_shells_0 18 rfl rfl 1 1 rfl rfl _ rfl
theorem dX10_shells_21 : decode cX10_shells 21 = .ok (.ifCond .ne 5, 3) := zq_2s zo_154 zkX10_shells_0 21 rfl rfl 0 5 rfl rfl _ (by decide +kernel)
theorem dX10_shells_24 : decode cX10_shells 24 = .ok (.iconst (-1), 1) := zq_0 zo_2 zkX10_shells_0 24 rfl rfl
theorem dX10_shells_25 : decode cX10_shells 25 = .ok (.ireturn, 1) := zq_0 zo_172 zkX10_shells_0 25 rfl rfl
theorem dX10_shells_26 : decode cX10_shells 26 = .ok (.aload_n 0, 1) := zq_0 zo_42 zkX10_shells_0 26 rfl rfl
theorem dX10_shells_27 : decode cX10_shells 27 = .ok (.invokevirtual 326, 3) := zq_2 zo_182 zkX10_shells_0 27 rfl rfl 1 70 rfl rfl _ rfl
theorem dX10_shells_30 : decode cX10_shells 30 = .ok (.istore 6, 2) := zq_1 zo_54 zkX10_shells_0 30 rfl rfl 6 rfl
theorem zkX10_shells_32 : zqc cX10_shells 32 [3, 54, 7, 21, 6, 54, 8, 3, 54, 9, 3, 54, 10, 21, 10, 21, 6, 163, 0, 57, 21, 10, 21, 6, 2, 130, 126, 154, 0, 41, 42, 21, 10, 182] := zq_of 34 (by decide +kernel)
theorem dX10_shells_32 : decode cX10_shells 32 = .ok (.iconst 0, 1) := zq_0 zo_3 zkX10_shells_32 0 rfl rfl
theorem dX10_shells_33 : decode cX10_shells 33 = .ok (.istore 7, 2) := zq_1 zo_54 zkX10_shells_32 1 rfl rfl 7 rfl
theorem dX10_shells_35 : decode cX10_shells 35 = .ok (.iload 6, 2) := zq_1 zo_21 zkX10_shells_32 3 rfl rfl 6 rfl
theorem dX10_shells_37 : decode cX10_shells 37 = .ok (.istore 8, 2) := zq_1 zo_54 zkX10_shells_32 5 rfl rfl 8 rfl
theorem dX10_shells_39 : decode cX10_shells 39 = .ok (.iconst 0, 1) := zq_0 zo_3 zkX10_shells_32 7 rfl rfl
theorem dX10_shells_40 : decode cX10_shells 40 = .ok (.istore 9, 2) := zq_1 zo_54 zkX10_shells_32 8 rfl rfl 9 rfl
theorem dX10_shells_42 : decode cX10_shells 42 = .ok (.iconst 0, 1) := zq_0 zo_3 zkX10_shells_32 10 rfl rfl
theorem dX10_shells_43 : decode cX10_shells 43 = .ok (.istore 10, 2) := zq_1 zo_54 zkX10_shells_32 11 rfl rfl 10 rfl
theorem dX10_shells_45 : decode cX10_shells 45 = .ok (.iload 10, 2) := zq_1 zo_21 zkX10_shells_32 13 rfl rfl 10 rfl
theorem dX10_shells_47 : decode cX10_shells 47 = .ok (.iload 6, 2) := zq_1 zo_21 zkX10_shells_32 15 rfl rfl 6 rfl
theorem dX10_shells_49 : decode cX10_shells 49 = .ok (.if_icmp .gt 57, 3) := zq_2s zo_163 zkX10_shells_32 17 rfl rfl 0 57 rfl rfl _ (by decide +kernel)
theorem dX10_shells_52 : decode cX10_shells 52 = .ok (.iload 10, 2) := zq_1 zo_21 zkX10_shells_32 20 rfl rfl 10 rfl
theorem dX10_shells_54 : decode cX10_shells 54 = .ok (.iload 6, 2) := zq_1 zo_21 zkX10_shells_32 22 rfl rfl 6 rfl
theorem dX10_shells_56 : decode cX10_shells 56 = .ok (.iconst (-1), 1) := zq_0 zo_2 zkX10_shells_32 24 rfl rfl
theorem dX10_shells_57 : decode cX10_shells 57 = .ok (.ixor, 1) := zq_0 zo_130 zkX10_shells_32 25 rfl rfl
theorem dX10_shells_58 : decode cX10_shells 58 = .ok (.iand, 1) := zq_0 zo_126 zkX10_shells_32 26 rfl rfl
theorem dX10_shells_59 : decode cX10_shells 59 = .ok (.ifCond .ne 41, 3) := zq_2s zo_154 zkX10_shells_32 27 rfl rfl 0 41 rfl rfl _ (by decide +kernel)
theorem dX10_shells_62 : decode cX10_shells 62 = .ok (.aload_n 0, 1) := zq_0 zo_42 zkX10_shells_32 30 rfl rfl
theorem dX10_shells_63 : decode cX10_shells 63 = .ok (.iload 10, 2) := zq_1 zo_21 zkX10_shells_32 31 rfl rfl 10 rfl
theorem zkX10_shells_64 : zqc cX10_shells 64 [10, 182, 1, 73, 29, 160, 0, 31, 42, 21, 10, 182, 1, 76, 21, 4, 160, 0, 20, 132, 7, 1, 21, 8, 21, 10, 126, 54, 8, 21, 9, 21, 10, 128] := zq_of 34 (by decide +kernel)
theorem dX10_shells_65 : decode cX10_shells 65 = .ok (.invokevirtual 329, 3) := zq_2 zo_182 zkX10_shells_64 1 rfl rfl 1 73 rfl rfl _ rfl
theorem dX10_shells_68 : decode cX10_shells 68 = .ok (.iload_n 3, 1) := zq_0 zo_29 zkX10_shells_64 4 rfl rfl
theorem dX10_shells_69 : decode cX10_shells 69 = .ok (.if_icmp .ne 31, 3) := zq_2s zo_160 zkX10_shells_64 5 rfl rfl 0 31 rfl rfl _ (by decide +kernel)
theorem dX10_shells_72 : decode cX10_shells 72 = .ok (.aload_n 0, 1) := zq_0 zo_42 zkX10_shells_64 8 rfl rfl
theorem dX10_shells_73 : decode cX10_shells 73 = .ok (.iload 10, 2) := zq_1 zo_21 zkX10_shells_64 9 rfl rfl 10 rfl
theorem dX10_shells_75 : decode cX10_shells 75 = .ok (.invokevirtual 332, 3) := zq_2 zo_182 zkX10_shells_64 11 rfl rfl 1 76 rfl rfl _ rfl
theorem dX10_shells_78 : decode cX10_shells 78 = .ok (.iload 4, 2) := zq_1 zo_21 zkX10_shells_64 14 rfl rfl 4 rfl
theorem dX10_shells_80 : decode cX10_shells 80 = .ok (.if_icmp .ne 20, 3) := zq_2s zo_160 zkX10_shells_64 16 rfl rfl 0 20 rfl rfl _ (by decide +kernel)
theorem dX10_shells_83 : decode cX10_shells 83 = .ok (.iinc 7 1, 3) := zq_ii zo_132 zkX10_shells_64 19 rfl rfl 7 1 rfl rfl _ (by decide +kernel)
theorem dX10_shells_86 : decode cX10_shells 86 = .ok (.iload 8, 2) := zq_1 zo_21 zkX10_shells_64 22 rfl rfl 8 rfl
theorem dX10_shells_88 : decode cX10_shells 88 = .ok (.iload 10, 2) := zq_1 zo_21 zkX10_shells_64 24 rfl rfl 10 rfl
theorem dX10_shells_90 : decode cX10_shells 90 = .ok (.iand, 1) := zq_0 zo_126 zkX10_shells_64 26 rfl rfl
theorem dX10_shells_91 : decode cX10_shells 91 = .ok (.istore 8, 2) := zq_1 zo_54 zkX10_shells_64 27 rfl rfl 8 rfl
theorem dX10_shells_93 : decode cX10_shells 93 = .ok (.iload 9, 2) := zq_1 zo_21 zkX10_shells_64 29 rfl rfl 9 rfl
theorem dX10_shells_95 : decode cX10_shells 95 = .ok (.iload 10, 2) := zq_1 zo_21 zkX10_shells_64 31 rfl rfl 10 rfl
theorem zkX10_shells_96 : zqc cX10_shells 96 [10, 128, 54, 9, 132, 10, 1, 167, 255, 198, 21, 5, 154, 0, 8, 21, 7, 167, 0, 25, 21, 5, 5, 160, 0, 8, 21, 9, 167, 0, 14, 21, 7, 154] := zq_of 34 (by decide +kernel)
theorem dX10_shells_97 : decode cX10_shells 97 = .ok (.ior, 1) := zq_0 zo_128 zkX10_shells_96 1 rfl rfl
theorem dX10_shells_98 : decode cX10_shells 98 = .ok (.istore 9, 2) := zq_1 zo_54 zkX10_shells_96 2 rfl rfl 9 rfl
theorem dX10_shells_100 : decode cX10_shells 100 = .ok (.iinc 10 1, 3) := zq_ii zo_132 zkX10_shells_96 4 rfl rfl 10 1 rfl rfl _ (by decide +kernel)
theorem dX10_shells_103 : decode cX10_shells 103 = .ok (.goto (-58), 3) := zq_2s zo_167 zkX10_shells_96 7 rfl rfl 255 198 rfl rfl _ (by decide +kernel)
theorem dX10_shells_106 : decode cX10_shells 106 = .ok (.iload 5, 2) := zq_1 zo_21 zkX10_shells_96 10 rfl rfl 5 rfl
theorem dX10_shells_108 : decode cX10_shells 108 = .ok (.ifCond .ne 8, 3) := zq_2s zo_154 zkX10_shells_96 12 rfl rfl 0 8 rfl rfl _ (by decide +kernel)
theorem dX10_shells_111 : decode cX10_shells 111 = .ok (.iload 7, 2) := zq_1 zo_21 zkX10_shells_96 15 rfl rfl 7 rfl
theorem dX10_shells_113 : decode cX10_shells 113 = .ok (.goto 25, 3) := zq_2s zo_167 zkX10_shells_96 17 rfl rfl 0 25 rfl rfl _ (by decide +kernel)
theorem dX10_shells_116 : decode cX10_shells 116 = .ok (.iload 5, 2) := zq_1 zo_21 zkX10_shells_96 20 rfl rfl 5 rfl
theorem dX10_shells_118 : decode cX10_shells 118 = .ok (.iconst 2, 1) := zq_0 zo_5 zkX10_shells_96 22 rfl rfl
theorem dX10_shells_119 : decode cX10_shells 119 = .ok (.if_icmp .ne 8, 3) := zq_2s zo_160 zkX10_shells_96 23 rfl rfl 0 8 rfl rfl _ (by decide +kernel)
theorem dX10_shells_122 : decode cX10_shells 122 = .ok (.iload 9, 2) := zq_1 zo_21 zkX10_shells_96 26 rfl rfl 9 rfl
theorem dX10_shells_124 : decode cX10_shells 124 = .ok (.goto 14, 3) := zq_2s zo_167 zkX10_shells_96 28 rfl rfl 0 14 rfl rfl _ (by decide +kernel)
theorem dX10_shells_127 : decode cX10_shells 127 = .ok (.iload 7, 2) := zq_1 zo_21 zkX10_shells_96 31 rfl rfl 7 rfl
theorem zkX10_shells_128 : zqc cX10_shells 128 [7, 154, 0, 7, 2, 167, 0, 5, 21, 8, 172] := zq_of 11 (by decide +kernel)
theorem dX10_shells_129 : decode cX10_shells 129 = .ok (.ifCond .ne 7, 3) := zq_2s zo_154 zkX10_shells_128 1 rfl rfl 0 7 rfl rfl _ (by decide +kernel)
theorem dX10_shells_132 : decode cX10_shells 132 = .ok (.iconst (-1), 1) := zq_0 zo_2 zkX10_shells_128 4 rfl rfl
theorem dX10_shells_133 : decode cX10_shells 133 = .ok (.goto 5, 3) := zq_2s zo_167 zkX10_shells_128 5 rfl rfl 0 5 rfl rfl _ (by decide +kernel)
theorem dX10_shells_136 : decode cX10_shells 136 = .ok (.iload 8, 2) := zq_1 zo_21 zkX10_shells_128 8 rfl rfl 8 rfl
theorem dX10_shells_138 : decode cX10_shells 138 = .ok (.ireturn, 1) := zq_0 zo_172 zkX10_shells_128 10 rfl rfl
theorem zkX10_nextStation_0 : zqc cX10_nextStation 0 [27, 4, 96, 61, 28, 42, 180, 0, 245, 162, 0, 21, 42, 28, 7, 182, 0, 242, 2, 159, 0, 5, 28, 172, 132, 2, 1, 167, 255, 233, 2, 172] := zq_of 32 (by decide +kernel)
theorem dX10_nextStation_0 : decode cX10_nextStation 0 = .ok (.iload_n 1, 1) := zq_0 zo_27 zkX10_nextStation_0 0 rfl rfl
theorem dX10_nextStation_1 : decode cX10_nextStation 1 = .ok (.iconst 1, 1) := zq_0 zo_4 zkX10_nextStation_0 1 rfl rfl
theorem dX10_nextStation_2 : decode cX10_nextStation 2 = .ok (.iadd, 1) := zq_0 zo_96 zkX10_nextStation_0 2 rfl rfl
theorem dX10_nextStation_3 : decode cX10_nextStation 3 = .ok (.istore_n 2, 1) := zq_0 zo_61 zkX10_nextStation_0 3 rfl rfl
theorem dX10_nextStation_4 : decode cX10_nextStation 4 = .ok (.iload_n 2, 1) := zq_0 zo_28 zkX10_nextStation_0 4 rfl rfl
theorem dX10_nextStation_5 : decode cX10_nextStation 5 = .ok (.aload_n 0, 1) := zq_0 zo_42 zkX10_nextStation_0 5 rfl rfl
theorem dX10_nextStation_6 : decode cX10_nextStation 6 = .ok (.getfield 245, 3) := zq_2 zo_180 zkX10_nextStation_0 6 rfl rfl 0 245 rfl rfl _ rfl
theorem dX10_nextStation_9 : decode cX10_nextStation 9 = .ok (.if_icmp .ge 21, 3) := zq_2s zo_162 zkX10_nextStation_0 9 rfl rfl 0 21 rfl rfl _ (by decide +kernel)
theorem dX10_nextStation_12 : decode cX10_nextStation 12 = .ok (.aload_n 0, 1) := zq_0 zo_42 zkX10_nextStation_0 12 rfl rfl
theorem dX10_nextStation_13 : decode cX10_nextStation 13 = .ok (.iload_n 2, 1) := zq_0 zo_28 zkX10_nextStation_0 13 rfl rfl
theorem dX10_nextStation_14 : decode cX10_nextStation 14 = .ok (.iconst 4, 1) := zq_0 zo_7 zkX10_nextStation_0 14 rfl rfl
theorem dX10_nextStation_15 : decode cX10_nextStation 15 = .ok (.invokevirtual 242, 3) := zq_2 zo_182 zkX10_nextStation_0 15 rfl rfl 0 242 rfl rfl _ rfl
theorem dX10_nextStation_18 : decode cX10_nextStation 18 = .ok (.iconst (-1), 1) := zq_0 zo_2 zkX10_nextStation_0 18 rfl rfl
theorem dX10_nextStation_19 : decode cX10_nextStation 19 = .ok (.if_icmp .eq 5, 3) := zq_2s zo_159 zkX10_nextStation_0 19 rfl rfl 0 5 rfl rfl _ (by decide +kernel)
theorem dX10_nextStation_22 : decode cX10_nextStation 22 = .ok (.iload_n 2, 1) := zq_0 zo_28 zkX10_nextStation_0 22 rfl rfl
theorem dX10_nextStation_23 : decode cX10_nextStation 23 = .ok (.ireturn, 1) := zq_0 zo_172 zkX10_nextStation_0 23 rfl rfl
theorem dX10_nextStation_24 : decode cX10_nextStation 24 = .ok (.iinc 2 1, 3) := zq_ii zo_132 zkX10_nextStation_0 24 rfl rfl 2 1 rfl rfl _ (by decide +kernel)
theorem dX10_nextStation_27 : decode cX10_nextStation 27 = .ok (.goto (-23), 3) := zq_2s zo_167 zkX10_nextStation_0 27 rfl rfl 255 233 rfl rfl _ (by decide +kernel)
theorem dX10_nextStation_30 : decode cX10_nextStation 30 = .ok (.iconst (-1), 1) := zq_0 zo_2 zkX10_nextStation_0 30 rfl rfl
theorem dX10_nextStation_31 : decode cX10_nextStation 31 = .ok (.ireturn, 1) := zq_0 zo_172 zkX10_nextStation_0 31 rfl rfl
theorem zkX10_waitAt_0 : zqc cX10_waitAt 0 [42, 27, 7, 182, 0, 242, 2, 160, 0, 7, 2, 167, 0, 8, 42, 27, 182, 1, 112, 62, 29, 2, 159, 0, 13, 42, 180, 0, 82, 27, 46, 28, 163, 0] := zq_of 34 (by decide +kernel)
theorem dX10_waitAt_0 : decode cX10_waitAt 0 = .ok (.aload_n 0, 1) := zq_0 zo_42 zkX10_waitAt_0 0 rfl rfl
theorem dX10_waitAt_1 : decode cX10_waitAt 1 = .ok (.iload_n 1, 1) := zq_0 zo_27 zkX10_waitAt_0 1 rfl rfl
theorem dX10_waitAt_2 : decode cX10_waitAt 2 = .ok (.iconst 4, 1) := zq_0 zo_7 zkX10_waitAt_0 2 rfl rfl
theorem dX10_waitAt_3 : decode cX10_waitAt 3 = .ok (.invokevirtual 242, 3) := zq_2 zo_182 zkX10_waitAt_0 3 rfl rfl 0 242 rfl rfl _ rfl
theorem dX10_waitAt_6 : decode cX10_waitAt 6 = .ok (.iconst (-1), 1) := zq_0 zo_2 zkX10_waitAt_0 6 rfl rfl
theorem dX10_waitAt_7 : decode cX10_waitAt 7 = .ok (.if_icmp .ne 7, 3) := zq_2s zo_160 zkX10_waitAt_0 7 rfl rfl 0 7 rfl rfl _ (by decide +kernel)
theorem dX10_waitAt_10 : decode cX10_waitAt 10 = .ok (.iconst (-1), 1) := zq_0 zo_2 zkX10_waitAt_0 10 rfl rfl
theorem dX10_waitAt_11 : decode cX10_waitAt 11 = .ok (.goto 8, 3) := zq_2s zo_167 zkX10_waitAt_0 11 rfl rfl 0 8 rfl rfl _ (by decide +kernel)
theorem dX10_waitAt_14 : decode cX10_waitAt 14 = .ok (.aload_n 0, 1) := zq_0 zo_42 zkX10_waitAt_0 14 rfl rfl
theorem dX10_waitAt_15 : decode cX10_waitAt 15 = .ok (.iload_n 1, 1) := zq_0 zo_27 zkX10_waitAt_0 15 rfl rfl
theorem dX10_waitAt_16 : decode cX10_waitAt 16 = .ok (.invokevirtual 368, 3) := zq_2 zo_182 zkX10_waitAt_0 16 rfl rfl 1 112 rfl rfl _ rfl
theorem dX10_waitAt_19 : decode cX10_waitAt 19 = .ok (.istore_n 3, 1) := zq_0 zo_62 zkX10_waitAt_0 19 rfl rfl
theorem dX10_waitAt_20 : decode cX10_waitAt 20 = .ok (.iload_n 3, 1) := zq_0 zo_29 zkX10_waitAt_0 20 rfl rfl
theorem dX10_waitAt_21 : decode cX10_waitAt 21 = .ok (.iconst (-1), 1) := zq_0 zo_2 zkX10_waitAt_0 21 rfl rfl
theorem dX10_waitAt_22 : decode cX10_waitAt 22 = .ok (.if_icmp .eq 13, 3) := zq_2s zo_159 zkX10_waitAt_0 22 rfl rfl 0 13 rfl rfl _ (by decide +kernel)
theorem dX10_waitAt_25 : decode cX10_waitAt 25 = .ok (.aload_n 0, 1) := zq_0 zo_42 zkX10_waitAt_0 25 rfl rfl
theorem dX10_waitAt_26 : decode cX10_waitAt 26 = .ok (.getfield 82, 3) := zq_2 zo_180 zkX10_waitAt_0 26 rfl rfl 0 82 rfl rfl _ rfl
theorem dX10_waitAt_29 : decode cX10_waitAt 29 = .ok (.iload_n 1, 1) := zq_0 zo_27 zkX10_waitAt_0 29 rfl rfl
theorem dX10_waitAt_30 : decode cX10_waitAt 30 = .ok (.iaload, 1) := zq_0 zo_46 zkX10_waitAt_0 30 rfl rfl
theorem dX10_waitAt_31 : decode cX10_waitAt 31 = .ok (.iload_n 2, 1) := zq_0 zo_28 zkX10_waitAt_0 31 rfl rfl
theorem zkX10_waitAt_32 : zqc cX10_waitAt 32 [163, 0, 5, 3, 172, 28, 54, 4, 27, 54, 5, 21, 5, 29, 162, 0, 21, 21, 4, 42, 180, 0, 47, 21, 5, 46, 96, 54, 4, 132, 5, 1, 167, 255] := zq_of 34 (by decide +kernel)
theorem dX10_waitAt_32 : decode cX10_waitAt 32 = .ok (.if_icmp .gt 5, 3) := zq_2s zo_163 zkX10_waitAt_32 0 rfl rfl 0 5 rfl rfl _ (by decide +kernel)
theorem dX10_waitAt_35 : decode cX10_waitAt 35 = .ok (.iconst 0, 1) := zq_0 zo_3 zkX10_waitAt_32 3 rfl rfl
theorem dX10_waitAt_36 : decode cX10_waitAt 36 = .ok (.ireturn, 1) := zq_0 zo_172 zkX10_waitAt_32 4 rfl rfl
theorem dX10_waitAt_37 : decode cX10_waitAt 37 = .ok (.iload_n 2, 1) := zq_0 zo_28 zkX10_waitAt_32 5 rfl rfl
theorem dX10_waitAt_38 : decode cX10_waitAt 38 = .ok (.istore 4, 2) := zq_1 zo_54 zkX10_waitAt_32 6 rfl rfl 4 rfl
theorem dX10_waitAt_40 : decode cX10_waitAt 40 = .ok (.iload_n 1, 1) := zq_0 zo_27 zkX10_waitAt_32 8 rfl rfl
theorem dX10_waitAt_41 : decode cX10_waitAt 41 = .ok (.istore 5, 2) := zq_1 zo_54 zkX10_waitAt_32 9 rfl rfl 5 rfl
theorem dX10_waitAt_43 : decode cX10_waitAt 43 = .ok (.iload 5, 2) := zq_1 zo_21 zkX10_waitAt_32 11 rfl rfl 5 rfl
theorem dX10_waitAt_45 : decode cX10_waitAt 45 = .ok (.iload_n 3, 1) := zq_0 zo_29 zkX10_waitAt_32 13 rfl rfl
theorem dX10_waitAt_46 : decode cX10_waitAt 46 = .ok (.if_icmp .ge 21, 3) := zq_2s zo_162 zkX10_waitAt_32 14 rfl rfl 0 21 rfl rfl _ (by decide +kernel)
theorem dX10_waitAt_49 : decode cX10_waitAt 49 = .ok (.iload 4, 2) := zq_1 zo_21 zkX10_waitAt_32 17 rfl rfl 4 rfl
theorem dX10_waitAt_51 : decode cX10_waitAt 51 = .ok (.aload_n 0, 1) := zq_0 zo_42 zkX10_waitAt_32 19 rfl rfl
theorem dX10_waitAt_52 : decode cX10_waitAt 52 = .ok (.getfield 47, 3) := zq_2 zo_180 zkX10_waitAt_32 20 rfl rfl 0 47 rfl rfl _ rfl
theorem dX10_waitAt_55 : decode cX10_waitAt 55 = .ok (.iload 5, 2) := zq_1 zo_21 zkX10_waitAt_32 23 rfl rfl 5 rfl
theorem dX10_waitAt_57 : decode cX10_waitAt 57 = .ok (.iaload, 1) := zq_0 zo_46 zkX10_waitAt_32 25 rfl rfl
theorem dX10_waitAt_58 : decode cX10_waitAt 58 = .ok (.iadd, 1) := zq_0 zo_96 zkX10_waitAt_32 26 rfl rfl
theorem dX10_waitAt_59 : decode cX10_waitAt 59 = .ok (.istore 4, 2) := zq_1 zo_54 zkX10_waitAt_32 27 rfl rfl 4 rfl
theorem dX10_waitAt_61 : decode cX10_waitAt 61 = .ok (.iinc 5 1, 3) := zq_ii zo_132 zkX10_waitAt_32 29 rfl rfl 5 1 rfl rfl _ (by decide +kernel)
theorem zkX10_waitAt_64 : zqc cX10_waitAt 64 [167, 255, 235, 42, 180, 0, 82, 29, 46, 21, 4, 162, 0, 14, 42, 180, 0, 82, 27, 46, 28, 100, 167, 0, 4, 3, 172] := zq_of 27 (by decide +kernel)
theorem dX10_waitAt_64 : decode cX10_waitAt 64 = .ok (.goto (-21), 3) := zq_2s zo_167 zkX10_waitAt_64 0 rfl rfl 255 235 rfl rfl _ (by decide +kernel)
theorem dX10_waitAt_67 : decode cX10_waitAt 67 = .ok (.aload_n 0, 1) := zq_0 zo_42 zkX10_waitAt_64 3 rfl rfl
theorem dX10_waitAt_68 : decode cX10_waitAt 68 = .ok (.getfield 82, 3) := zq_2 zo_180 zkX10_waitAt_64 4 rfl rfl 0 82 rfl rfl _ rfl
theorem dX10_waitAt_71 : decode cX10_waitAt 71 = .ok (.iload_n 3, 1) := zq_0 zo_29 zkX10_waitAt_64 7 rfl rfl
theorem dX10_waitAt_72 : decode cX10_waitAt 72 = .ok (.iaload, 1) := zq_0 zo_46 zkX10_waitAt_64 8 rfl rfl
theorem dX10_waitAt_73 : decode cX10_waitAt 73 = .ok (.iload 4, 2) := zq_1 zo_21 zkX10_waitAt_64 9 rfl rfl 4 rfl
theorem dX10_waitAt_75 : decode cX10_waitAt 75 = .ok (.if_icmp .ge 14, 3) := zq_2s zo_162 zkX10_waitAt_64 11 rfl rfl 0 14 rfl rfl _ (by decide +kernel)
theorem dX10_waitAt_78 : decode cX10_waitAt 78 = .ok (.aload_n 0, 1) := zq_0 zo_42 zkX10_waitAt_64 14 rfl rfl
theorem dX10_waitAt_79 : decode cX10_waitAt 79 = .ok (.getfield 82, 3) := zq_2 zo_180 zkX10_waitAt_64 15 rfl rfl 0 82 rfl rfl _ rfl
theorem dX10_waitAt_82 : decode cX10_waitAt 82 = .ok (.iload_n 1, 1) := zq_0 zo_27 zkX10_waitAt_64 18 rfl rfl
theorem dX10_waitAt_83 : decode cX10_waitAt 83 = .ok (.iaload, 1) := zq_0 zo_46 zkX10_waitAt_64 19 rfl rfl
theorem dX10_waitAt_84 : decode cX10_waitAt 84 = .ok (.iload_n 2, 1) := zq_0 zo_28 zkX10_waitAt_64 20 rfl rfl
theorem dX10_waitAt_85 : decode cX10_waitAt 85 = .ok (.isub, 1) := zq_0 zo_100 zkX10_waitAt_64 21 rfl rfl
theorem dX10_waitAt_86 : decode cX10_waitAt 86 = .ok (.goto 4, 3) := zq_2s zo_167 zkX10_waitAt_64 22 rfl rfl 0 4 rfl rfl _ (by decide +kernel)
theorem dX10_waitAt_89 : decode cX10_waitAt 89 = .ok (.iconst 0, 1) := zq_0 zo_3 zkX10_waitAt_64 25 rfl rfl
theorem dX10_waitAt_90 : decode cX10_waitAt 90 = .ok (.ireturn, 1) := zq_0 zo_172 zkX10_waitAt_64 26 rfl rfl
theorem zkX10_meetOther_0 : zqc cX10_meetOther 0 [42, 180, 0, 82, 42, 180, 0, 248, 42, 16, 6, 182, 0, 238, 79, 42, 180, 0, 248, 4, 100, 60, 27, 155, 0, 30, 42, 180, 0, 82, 27, 42, 180, 0] := zq_of 34 (by decide +kernel)
theorem dX10_meetOther_0 : decode cX10_meetOther 0 = .ok (.aload_n 0, 1) := zq_0 zo_42 zkX10_meetOther_0 0 rfl rfl
theorem dX10_meetOther_1 : decode cX10_meetOther 1 = .ok (.getfield 82, 3) := zq_2 zo_180 zkX10_meetOther_0 1 rfl rfl 0 82 rfl rfl _ rfl
theorem dX10_meetOther_4 : decode cX10_meetOther 4 = .ok (.aload_n 0, 1) := zq_0 zo_42 zkX10_meetOther_0 4 rfl rfl
theorem dX10_meetOther_5 : decode cX10_meetOther 5 = .ok (.getfield 248, 3) := zq_2 zo_180 zkX10_meetOther_0 5 rfl rfl 0 248 rfl rfl _ rfl
theorem dX10_meetOther_8 : decode cX10_meetOther 8 = .ok (.aload_n 0, 1) := zq_0 zo_42 zkX10_meetOther_0 8 rfl rfl
theorem dX10_meetOther_9 : decode cX10_meetOther 9 = .ok (.bipush 6, 2) := zq_1s zo_16 zkX10_meetOther_0 9 rfl rfl 6 rfl _ (by decide +kernel)
theorem dX10_meetOther_11 : decode cX10_meetOther 11 = .ok (.invokevirtual 238, 3) := zq_2 zo_182 zkX10_meetOther_0 11 rfl rfl 0 238 rfl rfl _ rfl
theorem dX10_meetOther_14 : decode cX10_meetOther 14 = .ok (.iastore, 1) := zq_0 zo_79 zkX10_meetOther_0 14 rfl rfl
theorem dX10_meetOther_15 : decode cX10_meetOther 15 = .ok (.aload_n 0, 1) := zq_0 zo_42 zkX10_meetOther_0 15 rfl rfl
theorem dX10_meetOther_16 : decode cX10_meetOther 16 = .ok (.getfield 248, 3) := zq_2 zo_180 zkX10_meetOther_0 16 rfl rfl 0 248 rfl rfl _ rfl
theorem dX10_meetOther_19 : decode cX10_meetOther 19 = .ok (.iconst 1, 1) := zq_0 zo_4 zkX10_meetOther_0 19 rfl rfl
theorem dX10_meetOther_20 : decode cX10_meetOther 20 = .ok (.isub, 1) := zq_0 zo_100 zkX10_meetOther_0 20 rfl rfl
theorem dX10_meetOther_21 : decode cX10_meetOther 21 = .ok (.istore_n 1, 1) := zq_0 zo_60 zkX10_meetOther_0 21 rfl rfl
theorem dX10_meetOther_22 : decode cX10_meetOther 22 = .ok (.iload_n 1, 1) := zq_0 zo_27 zkX10_meetOther_0 22 rfl rfl
theorem dX10_meetOther_23 : decode cX10_meetOther 23 = .ok (.ifCond .lt 30, 3) := zq_2s zo_155 zkX10_meetOther_0 23 rfl rfl 0 30 rfl rfl _ (by decide +kernel)
theorem dX10_meetOther_26 : decode cX10_meetOther 26 = .ok (.aload_n 0, 1) := zq_0 zo_42 zkX10_meetOther_0 26 rfl rfl
theorem dX10_meetOther_27 : decode cX10_meetOther 27 = .ok (.getfield 82, 3) := zq_2 zo_180 zkX10_meetOther_0 27 rfl rfl 0 82 rfl rfl _ rfl
theorem dX10_meetOther_30 : decode cX10_meetOther 30 = .ok (.iload_n 1, 1) := zq_0 zo_27 zkX10_meetOther_0 30 rfl rfl
theorem dX10_meetOther_31 : decode cX10_meetOther 31 = .ok (.aload_n 0, 1) := zq_0 zo_42 zkX10_meetOther_0 31 rfl rfl
theorem zkX10_meetOther_32 : zqc cX10_meetOther 32 [180, 0, 82, 27, 4, 96, 46, 42, 180, 0, 47, 27, 46, 96, 79, 132, 1, 255, 167, 255, 228, 42, 2, 181, 1, 115, 3, 60, 3, 61, 28, 42, 180, 0] := zq_of 34 (by decide +kernel)
theorem dX10_meetOther_32 : decode cX10_meetOther 32 = .ok (.getfield 82, 3) := zq_2 zo_180 zkX10_meetOther_32 0 rfl rfl 0 82 rfl rfl _ rfl
theorem dX10_meetOther_35 : decode cX10_meetOther 35 = .ok (.iload_n 1, 1) := zq_0 zo_27 zkX10_meetOther_32 3 rfl rfl
theorem dX10_meetOther_36 : decode cX10_meetOther 36 = .ok (.iconst 1, 1) := zq_0 zo_4 zkX10_meetOther_32 4 rfl rfl
theorem dX10_meetOther_37 : decode cX10_meetOther 37 = .ok (.iadd, 1) := zq_0 zo_96 zkX10_meetOther_32 5 rfl rfl
theorem dX10_meetOther_38 : decode cX10_meetOther 38 = .ok (.iaload, 1) := zq_0 zo_46 zkX10_meetOther_32 6 rfl rfl
theorem dX10_meetOther_39 : decode cX10_meetOther 39 = .ok (.aload_n 0, 1) := zq_0 zo_42 zkX10_meetOther_32 7 rfl rfl
theorem dX10_meetOther_40 : decode cX10_meetOther 40 = .ok (.getfield 47, 3) := zq_2 zo_180 zkX10_meetOther_32 8 rfl rfl 0 47 rfl rfl _ rfl
theorem dX10_meetOther_43 : decode cX10_meetOther 43 = .ok (.iload_n 1, 1) := zq_0 zo_27 zkX10_meetOther_32 11 rfl rfl
theorem dX10_meetOther_44 : decode cX10_meetOther 44 = .ok (.iaload, 1) := zq_0 zo_46 zkX10_meetOther_32 12 rfl rfl
theorem dX10_meetOther_45 : decode cX10_meetOther 45 = .ok (.iadd, 1) := zq_0 zo_96 zkX10_meetOther_32 13 rfl rfl
theorem dX10_meetOther_46 : decode cX10_meetOther 46 = .ok (.iastore, 1) := zq_0 zo_79 zkX10_meetOther_32 14 rfl rfl
theorem dX10_meetOther_47 : decode cX10_meetOther 47 = .ok (.iinc 1 (-1), 3) := zq_ii zo_132 zkX10_meetOther_32 15 rfl rfl 1 255 rfl rfl _ (by decide +kernel)
theorem dX10_meetOther_50 : decode cX10_meetOther 50 = .ok (.goto (-28), 3) := zq_2s zo_167 zkX10_meetOther_32 18 rfl rfl 255 228 rfl rfl _ (by decide +kernel)
theorem dX10_meetOther_53 : decode cX10_meetOther 53 = .ok (.aload_n 0, 1) := zq_0 zo_42 zkX10_meetOther_32 21 rfl rfl
theorem dX10_meetOther_54 : decode cX10_meetOther 54 = .ok (.iconst (-1), 1) := zq_0 zo_2 zkX10_meetOther_32 22 rfl rfl
theorem dX10_meetOther_55 : decode cX10_meetOther 55 = .ok (.putfield 371, 3) := zq_2 zo_181 zkX10_meetOther_32 23 rfl rfl 1 115 rfl rfl _ rfl
theorem dX10_meetOther_58 : decode cX10_meetOther 58 = .ok (.iconst 0, 1) := zq_0 zo_3 zkX10_meetOther_32 26 rfl rfl
theorem dX10_meetOther_59 : decode cX10_meetOther 59 = .ok (.istore_n 1, 1) := zq_0 zo_60 zkX10_meetOther_32 27 rfl rfl
theorem dX10_meetOther_60 : decode cX10_meetOther 60 = .ok (.iconst 0, 1) := zq_0 zo_3 zkX10_meetOther_32 28 rfl rfl
theorem dX10_meetOther_61 : decode cX10_meetOther 61 = .ok (.istore_n 2, 1) := zq_0 zo_61 zkX10_meetOther_32 29 rfl rfl
theorem dX10_meetOther_62 : decode cX10_meetOther 62 = .ok (.iload_n 2, 1) := zq_0 zo_28 zkX10_meetOther_32 30 rfl rfl
theorem dX10_meetOther_63 : decode cX10_meetOther 63 = .ok (.aload_n 0, 1) := zq_0 zo_42 zkX10_meetOther_32 31 rfl rfl
theorem zkX10_meetOther_64 : zqc cX10_meetOther 64 [180, 0, 245, 162, 0, 129, 42, 180, 0, 56, 28, 27, 79, 42, 180, 0, 79, 28, 3, 79, 28, 42, 180, 0, 248, 162, 0, 101, 27, 42, 180, 0, 59, 28] := zq_of 34 (by decide +kernel)
theorem dX10_meetOther_64 : decode cX10_meetOther 64 = .ok (.getfield 245, 3) := zq_2 zo_180 zkX10_meetOther_64 0 rfl rfl 0 245 rfl rfl _ rfl
theorem dX10_meetOther_67 : decode cX10_meetOther 67 = .ok (.if_icmp .ge 129, 3) := zq_2s zo_162 zkX10_meetOther_64 3 rfl rfl 0 129 rfl rfl _ (by decide +kernel)
theorem dX10_meetOther_70 : decode cX10_meetOther 70 = .ok (.aload_n 0, 1) := zq_0 zo_42 zkX10_meetOther_64 6 rfl rfl
theorem dX10_meetOther_71 : decode cX10_meetOther 71 = .ok (.getfield 56, 3) := zq_2 zo_180 zkX10_meetOther_64 7 rfl rfl 0 56 rfl rfl _ rfl
theorem dX10_meetOther_74 : decode cX10_meetOther 74 = .ok (.iload_n 2, 1) := zq_0 zo_28 zkX10_meetOther_64 10 rfl rfl
theorem dX10_meetOther_75 : decode cX10_meetOther 75 = .ok (.iload_n 1, 1) := zq_0 zo_27 zkX10_meetOther_64 11 rfl rfl
theorem dX10_meetOther_76 : decode cX10_meetOther 76 = .ok (.iastore, 1) := zq_0 zo_79 zkX10_meetOther_64 12 rfl rfl
theorem dX10_meetOther_77 : decode cX10_meetOther 77 = .ok (.aload_n 0, 1) := zq_0 zo_42 zkX10_meetOther_64 13 rfl rfl
theorem dX10_meetOther_78 : decode cX10_meetOther 78 = .ok (.getfield 79, 3) := zq_2 zo_180 zkX10_meetOther_64 14 rfl rfl 0 79 rfl rfl _ rfl
theorem dX10_meetOther_81 : decode cX10_meetOther 81 = .ok (.iload_n 2, 1) := zq_0 zo_28 zkX10_meetOther_64 17 rfl rfl
theorem dX10_meetOther_82 : decode cX10_meetOther 82 = .ok (.iconst 0, 1) := zq_0 zo_3 zkX10_meetOther_64 18 rfl rfl
theorem dX10_meetOther_83 : decode cX10_meetOther 83 = .ok (.iastore, 1) := zq_0 zo_79 zkX10_meetOther_64 19 rfl rfl
theorem dX10_meetOther_84 : decode cX10_meetOther 84 = .ok (.iload_n 2, 1) := zq_0 zo_28 zkX10_meetOther_64 20 rfl rfl
theorem dX10_meetOther_85 : decode cX10_meetOther 85 = .ok (.aload_n 0, 1) := zq_0 zo_42 zkX10_meetOther_64 21 rfl rfl
theorem dX10_meetOther_86 : decode cX10_meetOther 86 = .ok (.getfield 248, 3) := zq_2 zo_180 zkX10_meetOther_64 22 rfl rfl 0 248 rfl rfl _ rfl
theorem dX10_meetOther_89 : decode cX10_meetOther 89 = .ok (.if_icmp .ge 101, 3) := zq_2s zo_162 zkX10_meetOther_64 25 rfl rfl 0 101 rfl rfl _ (by decide +kernel)
theorem dX10_meetOther_92 : decode cX10_meetOther 92 = .ok (.iload_n 1, 1) := zq_0 zo_27 zkX10_meetOther_64 28 rfl rfl
theorem dX10_meetOther_93 : decode cX10_meetOther 93 = .ok (.aload_n 0, 1) := zq_0 zo_42 zkX10_meetOther_64 29 rfl rfl
theorem dX10_meetOther_94 : decode cX10_meetOther 94 = .ok (.getfield 59, 3) := zq_2 zo_180 zkX10_meetOther_64 30 rfl rfl 0 59 rfl rfl _ rfl
theorem zkX10_meetOther_96 : zqc cX10_meetOther 96 [59, 28, 46, 2, 159, 0, 12, 42, 180, 0, 50, 28, 46, 167, 0, 4, 3, 96, 62, 42, 180, 0, 79, 28, 42, 28, 29, 182, 1, 118, 79, 29, 42, 180] := zq_of 34 (by decide +kernel)
theorem dX10_meetOther_97 : decode cX10_meetOther 97 = .ok (.iload_n 2, 1) := zq_0 zo_28 zkX10_meetOther_96 1 rfl rfl
theorem dX10_meetOther_98 : decode cX10_meetOther 98 = .ok (.iaload, 1) := zq_0 zo_46 zkX10_meetOther_96 2 rfl rfl
theorem dX10_meetOther_99 : decode cX10_meetOther 99 = .ok (.iconst (-1), 1) := zq_0 zo_2 zkX10_meetOther_96 3 rfl rfl
theorem dX10_meetOther_100 : decode cX10_meetOther 100 = .ok (.if_icmp .eq 12, 3) := zq_2s zo_159 zkX10_meetOther_96 4 rfl rfl 0 12 rfl rfl _ (by decide +kernel)
theorem dX10_meetOther_103 : decode cX10_meetOther 103 = .ok (.aload_n 0, 1) := zq_0 zo_42 zkX10_meetOther_96 7 rfl rfl
theorem dX10_meetOther_104 : decode cX10_meetOther 104 = .ok (.getfield 50, 3) := zq_2 zo_180 zkX10_meetOther_96 8 rfl rfl 0 50 rfl rfl _ rfl
theorem dX10_meetOther_107 : decode cX10_meetOther 107 = .ok (.iload_n 2, 1) := zq_0 zo_28 zkX10_meetOther_96 11 rfl rfl
theorem dX10_meetOther_108 : decode cX10_meetOther 108 = .ok (.iaload, 1) := zq_0 zo_46 zkX10_meetOther_96 12 rfl rfl
theorem dX10_meetOther_109 : decode cX10_meetOther 109 = .ok (.goto 4, 3) := zq_2s zo_167 zkX10_meetOther_96 13 rfl rfl 0 4 rfl rfl _ (by decide +kernel)
theorem dX10_meetOther_112 : decode cX10_meetOther 112 = .ok (.iconst 0, 1) := zq_0 zo_3 zkX10_meetOther_96 16 rfl rfl
theorem dX10_meetOther_113 : decode cX10_meetOther 113 = .ok (.iadd, 1) := zq_0 zo_96 zkX10_meetOther_96 17 rfl rfl
theorem dX10_meetOther_114 : decode cX10_meetOther 114 = .ok (.istore_n 3, 1) := zq_0 zo_62 zkX10_meetOther_96 18 rfl rfl
theorem dX10_meetOther_115 : decode cX10_meetOther 115 = .ok (.aload_n 0, 1) := zq_0 zo_42 zkX10_meetOther_96 19 rfl rfl
theorem dX10_meetOther_116 : decode cX10_meetOther 116 = .ok (.getfield 79, 3) := zq_2 zo_180 zkX10_meetOther_96 20 rfl rfl 0 79 rfl rfl _ rfl
theorem dX10_meetOther_119 : decode cX10_meetOther 119 = .ok (.iload_n 2, 1) := zq_0 zo_28 zkX10_meetOther_96 23 rfl rfl
theorem dX10_meetOther_120 : decode cX10_meetOther 120 = .ok (.aload_n 0, 1) := zq_0 zo_42 zkX10_meetOther_96 24 rfl rfl
theorem dX10_meetOther_121 : decode cX10_meetOther 121 = .ok (.iload_n 2, 1) := zq_0 zo_28 zkX10_meetOther_96 25 rfl rfl
theorem dX10_meetOther_122 : decode cX10_meetOther 122 = .ok (.iload_n 3, 1) := zq_0 zo_29 zkX10_meetOther_96 26 rfl rfl
theorem dX10_meetOther_123 : decode cX10_meetOther 123 = .ok (.invokevirtual 374, 3) := zq_2 zo_182 zkX10_meetOther_96 27 rfl rfl 1 118 rfl rfl _ rfl
theorem dX10_meetOther_126 : decode cX10_meetOther 126 = .ok (.iastore, 1) := zq_0 zo_79 zkX10_meetOther_96 30 rfl rfl
theorem dX10_meetOther_127 : decode cX10_meetOther 127 = .ok (.iload_n 3, 1) := zq_0 zo_29 zkX10_meetOther_96 31 rfl rfl
theorem zkX10_meetOther_128 : zqc cX10_meetOther 128 [42, 180, 0, 79, 28, 46, 96, 54, 4, 21, 4, 42, 180, 0, 47, 28, 46, 96, 60, 42, 42, 180, 1, 115, 2, 160, 0, 30, 21, 4, 42, 180, 0, 82] := zq_of 34 (by decide +kernel)
theorem dX10_meetOther_128 : decode cX10_meetOther 128 = .ok (.aload_n 0, 1) := zq_0 zo_42 zkX10_meetOther_128 0 rfl rfl
theorem dX10_meetOther_129 : decode cX10_meetOther 129 = .ok (.getfield 79, 3) := zq_2 zo_180 zkX10_meetOther_128 1 rfl rfl 0 79 rfl rfl _ rfl
theorem dX10_meetOther_132 : decode cX10_meetOther 132 = .ok (.iload_n 2, 1) := zq_0 zo_28 zkX10_meetOther_128 4 rfl rfl
theorem dX10_meetOther_133 : decode cX10_meetOther 133 = .ok (.iaload, 1) := zq_0 zo_46 zkX10_meetOther_128 5 rfl rfl
theorem dX10_meetOther_134 : decode cX10_meetOther 134 = .ok (.iadd, 1) := zq_0 zo_96 zkX10_meetOther_128 6 rfl rfl
theorem dX10_meetOther_135 : decode cX10_meetOther 135 = .ok (.istore 4, 2) := zq_1 zo_54 zkX10_meetOther_128 7 rfl rfl 4 rfl
theorem dX10_meetOther_137 : decode cX10_meetOther 137 = .ok (.iload 4, 2) := zq_1 zo_21 zkX10_meetOther_128 9 rfl rfl 4 rfl
theorem dX10_meetOther_139 : decode cX10_meetOther 139 = .ok (.aload_n 0, 1) := zq_0 zo_42 zkX10_meetOther_128 11 rfl rfl
theorem dX10_meetOther_140 : decode cX10_meetOther 140 = .ok (.getfield 47, 3) := zq_2 zo_180 zkX10_meetOther_128 12 rfl rfl 0 47 rfl rfl _ rfl
theorem dX10_meetOther_143 : decode cX10_meetOther 143 = .ok (.iload_n 2, 1) := zq_0 zo_28 zkX10_meetOther_128 15 rfl rfl
theorem dX10_meetOther_144 : decode cX10_meetOther 144 = .ok (.iaload, 1) := zq_0 zo_46 zkX10_meetOther_128 16 rfl rfl
theorem dX10_meetOther_145 : decode cX10_meetOther 145 = .ok (.iadd, 1) := zq_0 zo_96 zkX10_meetOther_128 17 rfl rfl
theorem dX10_meetOther_146 : decode cX10_meetOther 146 = .ok (.istore_n 1, 1) := zq_0 zo_60 zkX10_meetOther_128 18 rfl rfl
theorem dX10_meetOther_147 : decode cX10_meetOther 147 = .ok (.aload_n 0, 1) := zq_0 zo_42 zkX10_meetOther_128 19 rfl rfl
theorem dX10_meetOther_148 : decode cX10_meetOther 148 = .ok (.aload_n 0, 1) := zq_0 zo_42 zkX10_meetOther_128 20 rfl rfl
theorem dX10_meetOther_149 : decode cX10_meetOther 149 = .ok (.getfield 371, 3) := zq_2 zo_180 zkX10_meetOther_128 21 rfl rfl 1 115 rfl rfl _ rfl
theorem dX10_meetOther_152 : decode cX10_meetOther 152 = .ok (.iconst (-1), 1) := zq_0 zo_2 zkX10_meetOther_128 24 rfl rfl
theorem dX10_meetOther_153 : decode cX10_meetOther 153 = .ok (.if_icmp .ne 30, 3) := zq_2s zo_160 zkX10_meetOther_128 25 rfl rfl 0 30 rfl rfl _ (by decide +kernel)
theorem dX10_meetOther_156 : decode cX10_meetOther 156 = .ok (.iload 4, 2) := zq_1 zo_21 zkX10_meetOther_128 28 rfl rfl 4 rfl
theorem dX10_meetOther_158 : decode cX10_meetOther 158 = .ok (.aload_n 0, 1) := zq_0 zo_42 zkX10_meetOther_128 30 rfl rfl
theorem dX10_meetOther_159 : decode cX10_meetOther 159 = .ok (.getfield 82, 3) := zq_2 zo_180 zkX10_meetOther_128 31 rfl rfl 0 82 rfl rfl _ rfl
theorem zkX10_meetOther_160 : zqc cX10_meetOther 160 [0, 82, 28, 46, 162, 0, 19, 42, 180, 0, 82, 28, 4, 96, 46, 27, 162, 0, 7, 28, 167, 0, 7, 42, 180, 1, 115, 181, 1, 115, 132, 2, 1, 167] := zq_of 34 (by decide +kernel)
theorem dX10_meetOther_162 : decode cX10_meetOther 162 = .ok (.iload_n 2, 1) := zq_0 zo_28 zkX10_meetOther_160 2 rfl rfl
theorem dX10_meetOther_163 : decode cX10_meetOther 163 = .ok (.iaload, 1) := zq_0 zo_46 zkX10_meetOther_160 3 rfl rfl
theorem dX10_meetOther_164 : decode cX10_meetOther 164 = .ok (.if_icmp .ge 19, 3) := zq_2s zo_162 zkX10_meetOther_160 4 rfl rfl 0 19 rfl rfl _ (by decide +kernel)
theorem dX10_meetOther_167 : decode cX10_meetOther 167 = .ok (.aload_n 0, 1) := zq_0 zo_42 zkX10_meetOther_160 7 rfl rfl
theorem dX10_meetOther_168 : decode cX10_meetOther 168 = .ok (.getfield 82, 3) := zq_2 zo_180 zkX10_meetOther_160 8 rfl rfl 0 82 rfl rfl _ rfl
theorem dX10_meetOther_171 : decode cX10_meetOther 171 = .ok (.iload_n 2, 1) := zq_0 zo_28 zkX10_meetOther_160 11 rfl rfl
theorem dX10_meetOther_172 : decode cX10_meetOther 172 = .ok (.iconst 1, 1) := zq_0 zo_4 zkX10_meetOther_160 12 rfl rfl
theorem dX10_meetOther_173 : decode cX10_meetOther 173 = .ok (.iadd, 1) := zq_0 zo_96 zkX10_meetOther_160 13 rfl rfl
theorem dX10_meetOther_174 : decode cX10_meetOther 174 = .ok (.iaload, 1) := zq_0 zo_46 zkX10_meetOther_160 14 rfl rfl
theorem dX10_meetOther_175 : decode cX10_meetOther 175 = .ok (.iload_n 1, 1) := zq_0 zo_27 zkX10_meetOther_160 15 rfl rfl
theorem dX10_meetOther_176 : decode cX10_meetOther 176 = .ok (.if_icmp .ge 7, 3) := zq_2s zo_162 zkX10_meetOther_160 16 rfl rfl 0 7 rfl rfl _ (by decide +kernel)
theorem dX10_meetOther_179 : decode cX10_meetOther 179 = .ok (.iload_n 2, 1) := zq_0 zo_28 zkX10_meetOther_160 19 rfl rfl
theorem dX10_meetOther_180 : decode cX10_meetOther 180 = .ok (.goto 7, 3) := zq_2s zo_167 zkX10_meetOther_160 20 rfl rfl 0 7 rfl rfl _ (by decide +kernel)
theorem dX10_meetOther_183 : decode cX10_meetOther 183 = .ok (.aload_n 0, 1) := zq_0 zo_42 zkX10_meetOther_160 23 rfl rfl
theorem dX10_meetOther_184 : decode cX10_meetOther 184 = .ok (.getfield 371, 3) := zq_2 zo_180 zkX10_meetOther_160 24 rfl rfl 1 115 rfl rfl _ rfl
theorem dX10_meetOther_187 : decode cX10_meetOther 187 = .ok (.putfield 371, 3) := zq_2 zo_181 zkX10_meetOther_160 27 rfl rfl 1 115 rfl rfl _ rfl
theorem dX10_meetOther_190 : decode cX10_meetOther 190 = .ok (.iinc 2 1, 3) := zq_ii zo_132 zkX10_meetOther_160 30 rfl rfl 2 1 rfl rfl _ (by decide +kernel)
theorem zkX10_meetOther_192 : zqc cX10_meetOther 192 [1, 167, 255, 125, 177] := zq_of 5 (by decide +kernel)
theorem dX10_meetOther_193 : decode cX10_meetOther 193 = .ok (.goto (-131), 3) := zq_2s zo_167 zkX10_meetOther_192 1 rfl rfl 255 125 rfl rfl _ (by decide +kernel)
theorem dX10_meetOther_196 : decode cX10_meetOther 196 = .ok (.return_, 1) := zq_0 zo_177 zkX10_meetOther_192 4 rfl rfl
theorem zkX10_meet_0 : zqc cX10_meet 0 [42, 3, 181, 0, 91, 42, 27, 28, 29, 21, 4, 182, 1, 57, 153, 0, 13, 42, 16, 6, 182, 0, 238, 2, 160, 0, 6, 16, 254, 172, 42, 182, 1, 121] := zq_of 34 (by decide +kernel)
theorem dX10_meet_0 : decode cX10_meet 0 = .ok (.aload_n 0, 1) := zq_0 zo_42 zkX10_meet_0 0 rfl rfl
theorem dX10_meet_1 : decode cX10_meet 1 = .ok (.iconst 0, 1) := zq_0 zo_3 zkX10_meet_0 1 rfl rfl
theorem dX10_meet_2 : decode cX10_meet 2 = .ok (.putfield 91, 3) := zq_2 zo_181 zkX10_meet_0 2 rfl rfl 0 91 rfl rfl _ rfl
theorem dX10_meet_5 : decode cX10_meet 5 = .ok (.aload_n 0, 1) := zq_0 zo_42 zkX10_meet_0 5 rfl rfl
theorem dX10_meet_6 : decode cX10_meet 6 = .ok (.iload_n 1, 1) := zq_0 zo_27 zkX10_meet_0 6 rfl rfl
theorem dX10_meet_7 : decode cX10_meet 7 = .ok (.iload_n 2, 1) := zq_0 zo_28 zkX10_meet_0 7 rfl rfl
theorem dX10_meet_8 : decode cX10_meet 8 = .ok (.iload_n 3, 1) := zq_0 zo_29 zkX10_meet_0 8 rfl rfl
theorem dX10_meet_9 : decode cX10_meet 9 = .ok (.iload 4, 2) := zq_1 zo_21 zkX10_meet_0 9 rfl rfl 4 rfl
theorem dX10_meet_11 : decode cX10_meet 11 = .ok (.invokevirtual 313, 3) := zq_2 zo_182 zkX10_meet_0 11 rfl rfl 1 57 rfl rfl _ rfl
theorem dX10_meet_14 : decode cX10_meet 14 = .ok (.ifCond .eq 13, 3) := zq_2s zo_153 zkX10_meet_0 14 rfl rfl 0 13 rfl rfl _ (by decide +kernel)
theorem dX10_meet_17 : decode cX10_meet 17 = .ok (.aload_n 0, 1) := zq_0 zo_42 zkX10_meet_0 17 rfl rfl
theorem dX10_meet_18 : decode cX10_meet 18 = .ok (.bipush 6, 2) := zq_1s zo_16 zkX10_meet_0 18 rfl rfl 6 rfl _ (by decide +kernel)
theorem dX10_meet_20 : decode cX10_meet 20 = .ok (.invokevirtual 238, 3) := zq_2 zo_182 zkX10_meet_0 20 rfl rfl 0 238 rfl rfl _ rfl
theorem dX10_meet_23 : decode cX10_meet 23 = .ok (.iconst (-1), 1) := zq_0 zo_2 zkX10_meet_0 23 rfl rfl
theorem dX10_meet_24 : decode cX10_meet 24 = .ok (.if_icmp .ne 6, 3) := zq_2s zo_160 zkX10_meet_0 24 rfl rfl 0 6 rfl rfl _ (by decide +kernel)
theorem dX10_meet_27 : decode cX10_meet 27 = .ok (.bipush (-2), 2) := zq_1s zo_16 zkX10_meet_0 27 rfl rfl 254 rfl _ (by decide +kernel)
theorem dX10_meet_29 : decode cX10_meet 29 = .ok (.ireturn, 1) := zq_0 zo_172 zkX10_meet_0 29 rfl rfl
theorem dX10_meet_30 : decode cX10_meet 30 = .ok (.aload_n 0, 1) := zq_0 zo_42 zkX10_meet_0 30 rfl rfl
theorem dX10_meet_31 : decode cX10_meet 31 = .ok (.invokevirtual 377, 3) := zq_2 zo_182 zkX10_meet_0 31 rfl rfl 1 121 rfl rfl _ rfl
theorem zkX10_meet_32 : zqc cX10_meet 32 [1, 121, 21, 5, 16, 100, 16, 100, 42, 180, 0, 248, 96, 184, 0, 103, 153, 0, 14, 42, 180, 0, 56, 21, 5, 16, 100, 100, 46, 172, 21, 5, 17, 0] := zq_of 34 (by decide +kernel)
theorem dX10_meet_34 : decode cX10_meet 34 = .ok (.iload 5, 2) := zq_1 zo_21 zkX10_meet_32 2 rfl rfl 5 rfl
theorem dX10_meet_36 : decode cX10_meet 36 = .ok (.bipush 100, 2) := zq_1s zo_16 zkX10_meet_32 4 rfl rfl 100 rfl _ (by decide +kernel)
theorem dX10_meet_38 : decode cX10_meet 38 = .ok (.bipush 100, 2) := zq_1s zo_16 zkX10_meet_32 6 rfl rfl 100 rfl _ (by decide +kernel)
theorem dX10_meet_40 : decode cX10_meet 40 = .ok (.aload_n 0, 1) := zq_0 zo_42 zkX10_meet_32 8 rfl rfl
