theorem dX4_append_28 : decode cX4_append 28 = .ok (.if_icmp .ne 9, 3) := by decide +kernel
theorem dX4_append_31 : decode cX4_append 31 = .ok (.aload_n 0, 1) := by decide +kernel
theorem dX4_append_32 : decode cX4_append 32 = .ok (.iconst 2, 1) := by decide +kernel
theorem dX4_append_33 : decode cX4_append 33 = .ok (.invokevirtual 118, 3) := by decide +kernel
theorem dX4_append_36 : decode cX4_append 36 = .ok (.ireturn, 1) := by decide +kernel
theorem dX4_append_37 : decode cX4_append 37 = .ok (.aload_n 0, 1) := by decide +kernel
theorem dX4_append_38 : decode cX4_append 38 = .ok (.getfield 23, 3) := by decide +kernel
theorem dX4_append_41 : decode cX4_append 41 = .ok (.aload_n 0, 1) := by decide +kernel
theorem dX4_append_42 : decode cX4_append 42 = .ok (.getfield 160, 3) := by decide +kernel
theorem dX4_append_45 : decode cX4_append 45 = .ok (.iload_n 1, 1) := by decide +kernel
theorem dX4_append_46 : decode cX4_append 46 = .ok (.iastore, 1) := by decide +kernel
theorem dX4_append_47 : decode cX4_append 47 = .ok (.aload_n 0, 1) := by decide +kernel
theorem dX4_append_48 : decode cX4_append 48 = .ok (.dup, 1) := by decide +kernel
theorem dX4_append_49 : decode cX4_append 49 = .ok (.getfield 160, 3) := by decide +kernel
theorem dX4_append_52 : decode cX4_append 52 = .ok (.iconst 1, 1) := by decide +kernel
theorem dX4_append_53 : decode cX4_append 53 = .ok (.iadd, 1) := by decide +kernel
theorem dX4_append_54 : decode cX4_append 54 = .ok (.putfield 160, 3) := by decide +kernel
theorem dX4_append_57 : decode cX4_append 57 = .ok (.aload_n 0, 1) := by decide +kernel
theorem dX4_append_58 : decode cX4_append 58 = .ok (.getfield 160, 3) := by decide +kernel
theorem dX4_append_61 : decode cX4_append 61 = .ok (.ireturn, 1) := by decide +kernel
theorem dX4_clearBuffer_0 : decode cX4_clearBuffer 0 = .ok (.aload_n 0, 1) := by decide +kernel
theorem dX4_clearBuffer_1 : decode cX4_clearBuffer 1 = .ok (.iconst 0, 1) := by decide +kernel
theorem dX4_clearBuffer_2 : decode cX4_clearBuffer 2 = .ok (.putfield 35, 3) := by decide +kernel
theorem dX4_clearBuffer_5 : decode cX4_clearBuffer 5 = .ok (.aload_n 0, 1) := by decide +kernel
theorem dX4_clearBuffer_6 : decode cX4_clearBuffer 6 = .ok (.getfield 160, 3) := by decide +kernel
theorem dX4_clearBuffer_9 : decode cX4_clearBuffer 9 = .ok (.istore_n 1, 1) := by decide +kernel
theorem dX4_clearBuffer_10 : decode cX4_clearBuffer 10 = .ok (.aload_n 0, 1) := by decide +kernel
theorem dX4_clearBuffer_11 : decode cX4_clearBuffer 11 = .ok (.iconst 0, 1) := by decide +kernel
theorem dX4_clearBuffer_12 : decode cX4_clearBuffer 12 = .ok (.putfield 160, 3) := by decide +kernel
theorem dX4_clearBuffer_15 : decode cX4_clearBuffer 15 = .ok (.iload_n 1, 1) := by decide +kernel
theorem dX4_clearBuffer_16 : decode cX4_clearBuffer 16 = .ok (.ireturn, 1) := by decide +kernel
theorem dX4_sign_0 : decode cX4_sign 0 = .ok (.aload_n 0, 1) := by decide +kernel
theorem dX4_sign_1 : decode cX4_sign 1 = .ok (.getfield 163, 3) := by decide +kernel
theorem dX4_sign_4 : decode cX4_sign 4 = .ok (.aload_n 0, 1) := by decide +kernel
theorem dX4_sign_5 : decode cX4_sign 5 = .ok (.getfield 160, 3) := by decide +kernel
theorem dX4_sign_8 : decode cX4_sign 8 = .ok (.if_icmp .ge 15, 3) := by decide +kernel
theorem dX4_sign_11 : decode cX4_sign 11 = .ok (.aload_n 0, 1) := by decide +kernel
theorem dX4_sign_12 : decode cX4_sign 12 = .ok (.getfield 23, 3) := by decide +kernel
theorem dX4_sign_15 : decode cX4_sign 15 = .ok (.aload_n 0, 1) := by decide +kernel
theorem dX4_sign_16 : decode cX4_sign 16 = .ok (.getfield 163, 3) := by decide +kernel
theorem dX4_sign_19 : decode cX4_sign 19 = .ok (.iaload, 1) := by decide +kernel
theorem dX4_sign_20 : decode cX4_sign 20 = .ok (.goto 4, 3) := by decide +kernel
theorem dX4_sign_23 : decode cX4_sign 23 = .ok (.iconst 0, 1) := by decide +kernel
theorem dX4_sign_24 : decode cX4_sign 24 = .ok (.ireturn, 1) := by decide +kernel
theorem dX4_takes_0 : decode cX4_takes 0 = .ok (.aload_n 0, 1) := by decide +kernel
theorem dX4_takes_1 : decode cX4_takes 1 = .ok (.aload_n 0, 1) := by decide +kernel
theorem dX4_takes_2 : decode cX4_takes 2 = .ok (.getfield 166, 3) := by decide +kernel
theorem dX4_takes_5 : decode cX4_takes 5 = .ok (.ifCond .eq 19, 3) := by decide +kernel
theorem dX4_takes_8 : decode cX4_takes 8 = .ok (.aload_n 0, 1) := by decide +kernel
theorem dX4_takes_9 : decode cX4_takes 9 = .ok (.invokevirtual 170, 3) := by decide +kernel
theorem dX4_takes_12 : decode cX4_takes 12 = .ok (.iload_n 1, 1) := by decide +kernel
theorem dX4_takes_13 : decode cX4_takes 13 = .ok (.iload_n 2, 1) := by decide +kernel
theorem dX4_takes_14 : decode cX4_takes 14 = .ok (.invokestatic 42, 3) := by decide +kernel
theorem dX4_takes_17 : decode cX4_takes 17 = .ok (.ifCond .eq 7, 3) := by decide +kernel
theorem dX4_takes_20 : decode cX4_takes 20 = .ok (.iconst 1, 1) := by decide +kernel
theorem dX4_takes_21 : decode cX4_takes 21 = .ok (.goto 4, 3) := by decide +kernel
theorem dX4_takes_24 : decode cX4_takes 24 = .ok (.iconst 0, 1) := by decide +kernel
theorem dX4_takes_25 : decode cX4_takes 25 = .ok (.putfield 166, 3) := by decide +kernel
theorem dX4_takes_28 : decode cX4_takes 28 = .ok (.aload_n 0, 1) := by decide +kernel
theorem dX4_takes_29 : decode cX4_takes 29 = .ok (.invokevirtual 170, 3) := by decide +kernel
theorem dX4_takes_32 : decode cX4_takes 32 = .ok (.iload_n 1, 1) := by decide +kernel
theorem dX4_takes_33 : decode cX4_takes 33 = .ok (.isub, 1) := by decide +kernel
theorem dX4_takes_34 : decode cX4_takes 34 = .ok (.istore_n 3, 1) := by decide +kernel
theorem dX4_takes_35 : decode cX4_takes 35 = .ok (.aload_n 0, 1) := by decide +kernel
theorem dX4_takes_36 : decode cX4_takes 36 = .ok (.dup, 1) := by decide +kernel
theorem dX4_takes_37 : decode cX4_takes 37 = .ok (.getfield 163, 3) := by decide +kernel
theorem dX4_takes_40 : decode cX4_takes 40 = .ok (.aload_n 0, 1) := by decide +kernel
theorem dX4_takes_41 : decode cX4_takes 41 = .ok (.getfield 166, 3) := by decide +kernel
theorem dX4_takes_44 : decode cX4_takes 44 = .ok (.ifCond .eq 7, 3) := by decide +kernel
theorem dX4_takes_47 : decode cX4_takes 47 = .ok (.iconst 1, 1) := by decide +kernel
theorem dX4_takes_48 : decode cX4_takes 48 = .ok (.goto 4, 3) := by decide +kernel
theorem dX4_takes_51 : decode cX4_takes 51 = .ok (.iconst 0, 1) := by decide +kernel
theorem dX4_takes_52 : decode cX4_takes 52 = .ok (.iadd, 1) := by decide +kernel
theorem dX4_takes_53 : decode cX4_takes 53 = .ok (.putfield 163, 3) := by decide +kernel
theorem dX4_takes_56 : decode cX4_takes 56 = .ok (.iload_n 3, 1) := by decide +kernel
theorem dX4_takes_57 : decode cX4_takes 57 = .ok (.ireturn, 1) := by decide +kernel
theorem dX4_laysRow_0 : decode cX4_laysRow 0 = .ok (.iload_n 2, 1) := by decide +kernel
theorem dX4_laysRow_1 : decode cX4_laysRow 1 = .ok (.istore 6, 2) := by decide +kernel
theorem dX4_laysRow_3 : decode cX4_laysRow 3 = .ok (.iload 6, 2) := by decide +kernel
theorem dX4_laysRow_5 : decode cX4_laysRow 5 = .ok (.iload_n 2, 1) := by decide +kernel
theorem dX4_laysRow_6 : decode cX4_laysRow 6 = .ok (.iload_n 3, 1) := by decide +kernel
theorem dX4_laysRow_7 : decode cX4_laysRow 7 = .ok (.iadd, 1) := by decide +kernel
theorem dX4_laysRow_8 : decode cX4_laysRow 8 = .ok (.if_icmp .ge 39, 3) := by decide +kernel
theorem dX4_laysRow_11 : decode cX4_laysRow 11 = .ok (.iload 5, 2) := by decide +kernel
theorem dX4_laysRow_13 : decode cX4_laysRow 13 = .ok (.ifCond .eq 34, 3) := by decide +kernel
theorem dX4_laysRow_16 : decode cX4_laysRow 16 = .ok (.aload_n 0, 1) := by decide +kernel
theorem dX4_laysRow_17 : decode cX4_laysRow 17 = .ok (.getfield 166, 3) := by decide +kernel
theorem dX4_laysRow_20 : decode cX4_laysRow 20 = .ok (.ifCond .eq 27, 3) := by decide +kernel
theorem dX4_laysRow_23 : decode cX4_laysRow 23 = .ok (.aload_n 0, 1) := by decide +kernel
theorem dX4_laysRow_24 : decode cX4_laysRow 24 = .ok (.getfield 7, 3) := by decide +kernel
theorem dX4_laysRow_27 : decode cX4_laysRow 27 = .ok (.sipush 616, 3) := by decide +kernel
theorem dX4_laysRow_30 : decode cX4_laysRow 30 = .ok (.bipush 12, 2) := by decide +kernel
theorem dX4_laysRow_32 : decode cX4_laysRow 32 = .ok (.iload_n 1, 1) := by decide +kernel
theorem dX4_laysRow_33 : decode cX4_laysRow 33 = .ok (.imul, 1) := by decide +kernel
theorem dX4_laysRow_34 : decode cX4_laysRow 34 = .ok (.iadd, 1) := by decide +kernel
theorem dX4_laysRow_35 : decode cX4_laysRow 35 = .ok (.iload 6, 2) := by decide +kernel
theorem dX4_laysRow_37 : decode cX4_laysRow 37 = .ok (.iadd, 1) := by decide +kernel
theorem dX4_laysRow_38 : decode cX4_laysRow 38 = .ok (.iload 4, 2) := by decide +kernel
theorem dX4_laysRow_40 : decode cX4_laysRow 40 = .ok (.iastore, 1) := by decide +kernel
theorem dX4_laysRow_41 : decode cX4_laysRow 41 = .ok (.iinc 6 1, 3) := by decide +kernel
theorem dX4_laysRow_44 : decode cX4_laysRow 44 = .ok (.goto (-41), 3) := by decide +kernel
theorem dX4_laysRow_47 : decode cX4_laysRow 47 = .ok (.return_, 1) := by decide +kernel
theorem dX4_readsRow_0 : decode cX4_readsRow 0 = .ok (.aload_n 0, 1) := by decide +kernel
theorem dX4_readsRow_1 : decode cX4_readsRow 1 = .ok (.bipush 97, 2) := by decide +kernel
theorem dX4_readsRow_3 : decode cX4_readsRow 3 = .ok (.bipush 108, 2) := by decide +kernel
theorem dX4_readsRow_5 : decode cX4_readsRow 5 = .ok (.invokevirtual 173, 3) := by decide +kernel
theorem dX4_readsRow_8 : decode cX4_readsRow 8 = .ok (.istore_n 2, 1) := by decide +kernel
theorem dX4_readsRow_9 : decode cX4_readsRow 9 = .ok (.aload_n 0, 1) := by decide +kernel
theorem dX4_readsRow_10 : decode cX4_readsRow 10 = .ok (.getfield 166, 3) := by decide +kernel
theorem dX4_readsRow_13 : decode cX4_readsRow 13 = .ok (.ifCond .eq 42, 3) := by decide +kernel
theorem dX4_readsRow_16 : decode cX4_readsRow 16 = .ok (.aload_n 0, 1) := by decide +kernel
theorem dX4_readsRow_17 : decode cX4_readsRow 17 = .ok (.invokevirtual 170, 3) := by decide +kernel
theorem dX4_readsRow_20 : decode cX4_readsRow 20 = .ok (.bipush 42, 2) := by decide +kernel
theorem dX4_readsRow_22 : decode cX4_readsRow 22 = .ok (.if_icmp .ne 33, 3) := by decide +kernel
theorem dX4_readsRow_25 : decode cX4_readsRow 25 = .ok (.aload_n 0, 1) := by decide +kernel
theorem dX4_readsRow_26 : decode cX4_readsRow 26 = .ok (.dup, 1) := by decide +kernel
theorem dX4_readsRow_27 : decode cX4_readsRow 27 = .ok (.getfield 163, 3) := by decide +kernel
theorem dX4_readsRow_30 : decode cX4_readsRow 30 = .ok (.iconst 1, 1) := by decide +kernel
theorem dX4_readsRow_31 : decode cX4_readsRow 31 = .ok (.iadd, 1) := by decide +kernel
theorem dX4_readsRow_32 : decode cX4_readsRow 32 = .ok (.putfield 163, 3) := by decide +kernel
theorem dX4_readsRow_35 : decode cX4_readsRow 35 = .ok (.aload_n 0, 1) := by decide +kernel
theorem dX4_readsRow_36 : decode cX4_readsRow 36 = .ok (.bipush 48, 2) := by decide +kernel
theorem dX4_readsRow_38 : decode cX4_readsRow 38 = .ok (.bipush 57, 2) := by decide +kernel
theorem dX4_readsRow_40 : decode cX4_readsRow 40 = .ok (.invokevirtual 173, 3) := by decide +kernel
theorem dX4_readsRow_43 : decode cX4_readsRow 43 = .ok (.istore_n 3, 1) := by decide +kernel
theorem dX4_readsRow_44 : decode cX4_readsRow 44 = .ok (.aload_n 0, 1) := by decide +kernel
theorem dX4_readsRow_45 : decode cX4_readsRow 45 = .ok (.iload_n 2, 1) := by decide +kernel
theorem dX4_readsRow_46 : decode cX4_readsRow 46 = .ok (.iconst 0, 1) := by decide +kernel
theorem dX4_readsRow_47 : decode cX4_readsRow 47 = .ok (.bipush 12, 2) := by decide +kernel
theorem dX4_readsRow_49 : decode cX4_readsRow 49 = .ok (.iload_n 3, 1) := by decide +kernel
theorem dX4_readsRow_50 : decode cX4_readsRow 50 = .ok (.iload_n 1, 1) := by decide +kernel
theorem dX4_readsRow_51 : decode cX4_readsRow 51 = .ok (.invokevirtual 176, 3) := by decide +kernel
theorem dX4_readsRow_54 : decode cX4_readsRow 54 = .ok (.return_, 1) := by decide +kernel
theorem dX4_readsRow_55 : decode cX4_readsRow 55 = .ok (.aload_n 0, 1) := by decide +kernel
theorem dX4_readsRow_56 : decode cX4_readsRow 56 = .ok (.bipush 48, 2) := by decide +kernel
theorem dX4_readsRow_58 : decode cX4_readsRow 58 = .ok (.bipush 57, 2) := by decide +kernel
theorem dX4_readsRow_60 : decode cX4_readsRow 60 = .ok (.invokevirtual 173, 3) := by decide +kernel
theorem dX4_readsRow_63 : decode cX4_readsRow 63 = .ok (.istore_n 3, 1) := by decide +kernel
theorem dX4_readsRow_64 : decode cX4_readsRow 64 = .ok (.aload_n 0, 1) := by decide +kernel
theorem dX4_readsRow_65 : decode cX4_readsRow 65 = .ok (.iload_n 2, 1) := by decide +kernel
theorem dX4_readsRow_66 : decode cX4_readsRow 66 = .ok (.iconst 0, 1) := by decide +kernel
theorem dX4_readsRow_67 : decode cX4_readsRow 67 = .ok (.iconst 1, 1) := by decide +kernel
theorem dX4_readsRow_68 : decode cX4_readsRow 68 = .ok (.iload_n 3, 1) := by decide +kernel
theorem dX4_readsRow_69 : decode cX4_readsRow 69 = .ok (.iload_n 1, 1) := by decide +kernel
theorem dX4_readsRow_70 : decode cX4_readsRow 70 = .ok (.invokevirtual 176, 3) := by decide +kernel
theorem dX4_readsRow_73 : decode cX4_readsRow 73 = .ok (.iconst 1, 1) := by decide +kernel
theorem dX4_readsRow_74 : decode cX4_readsRow 74 = .ok (.istore 4, 2) := by decide +kernel
theorem dX4_readsRow_76 : decode cX4_readsRow 76 = .ok (.iload 4, 2) := by decide +kernel
theorem dX4_readsRow_78 : decode cX4_readsRow 78 = .ok (.bipush 12, 2) := by decide +kernel
theorem dX4_readsRow_80 : decode cX4_readsRow 80 = .ok (.if_icmp .ge 51, 3) := by decide +kernel
theorem dX4_readsRow_83 : decode cX4_readsRow 83 = .ok (.aload_n 0, 1) := by decide +kernel
theorem dX4_readsRow_84 : decode cX4_readsRow 84 = .ok (.getfield 166, 3) := by decide +kernel
theorem dX4_readsRow_87 : decode cX4_readsRow 87 = .ok (.ifCond .eq 44, 3) := by decide +kernel
theorem dX4_readsRow_90 : decode cX4_readsRow 90 = .ok (.aload_n 0, 1) := by decide +kernel
theorem dX4_readsRow_91 : decode cX4_readsRow 91 = .ok (.invokevirtual 170, 3) := by decide +kernel
theorem dX4_readsRow_94 : decode cX4_readsRow 94 = .ok (.bipush 48, 2) := by decide +kernel
theorem dX4_readsRow_96 : decode cX4_readsRow 96 = .ok (.bipush 57, 2) := by decide +kernel
theorem dX4_readsRow_98 : decode cX4_readsRow 98 = .ok (.invokestatic 42, 3) := by decide +kernel
theorem dX4_readsRow_101 : decode cX4_readsRow 101 = .ok (.ifCond .eq 30, 3) := by decide +kernel
theorem dX4_readsRow_104 : decode cX4_readsRow 104 = .ok (.aload_n 0, 1) := by decide +kernel
theorem dX4_readsRow_105 : decode cX4_readsRow 105 = .ok (.bipush 48, 2) := by decide +kernel
theorem dX4_readsRow_107 : decode cX4_readsRow 107 = .ok (.bipush 57, 2) := by decide +kernel
theorem dX4_readsRow_109 : decode cX4_readsRow 109 = .ok (.invokevirtual 173, 3) := by decide +kernel
theorem dX4_readsRow_112 : decode cX4_readsRow 112 = .ok (.istore 5, 2) := by decide +kernel
theorem dX4_readsRow_114 : decode cX4_readsRow 114 = .ok (.aload_n 0, 1) := by decide +kernel
theorem dX4_readsRow_115 : decode cX4_readsRow 115 = .ok (.iload_n 2, 1) := by decide +kernel
theorem dX4_readsRow_116 : decode cX4_readsRow 116 = .ok (.iload 4, 2) := by decide +kernel
theorem dX4_readsRow_118 : decode cX4_readsRow 118 = .ok (.iconst 1, 1) := by decide +kernel
theorem dX4_readsRow_119 : decode cX4_readsRow 119 = .ok (.iload 5, 2) := by decide +kernel
theorem dX4_readsRow_121 : decode cX4_readsRow 121 = .ok (.iload_n 1, 1) := by decide +kernel
theorem dX4_readsRow_122 : decode cX4_readsRow 122 = .ok (.invokevirtual 176, 3) := by decide +kernel
theorem dX4_readsRow_125 : decode cX4_readsRow 125 = .ok (.iinc 4 1, 3) := by decide +kernel
theorem dX4_readsRow_128 : decode cX4_readsRow 128 = .ok (.goto (-52), 3) := by decide +kernel
theorem dX4_readsRow_131 : decode cX4_readsRow 131 = .ok (.return_, 1) := by decide +kernel
theorem dX4_readsAll_0 : decode cX4_readsAll 0 = .ok (.aload_n 0, 1) := by decide +kernel
theorem dX4_readsAll_1 : decode cX4_readsAll 1 = .ok (.iconst 0, 1) := by decide +kernel
theorem dX4_readsAll_2 : decode cX4_readsAll 2 = .ok (.putfield 163, 3) := by decide +kernel
theorem dX4_readsAll_5 : decode cX4_readsAll 5 = .ok (.aload_n 0, 1) := by decide +kernel
theorem dX4_readsAll_6 : decode cX4_readsAll 6 = .ok (.iconst 1, 1) := by decide +kernel
theorem dX4_readsAll_7 : decode cX4_readsAll 7 = .ok (.putfield 166, 3) := by decide +kernel
theorem dX4_readsAll_10 : decode cX4_readsAll 10 = .ok (.aload_n 0, 1) := by decide +kernel
theorem dX4_readsAll_11 : decode cX4_readsAll 11 = .ok (.iload_n 1, 1) := by decide +kernel
theorem dX4_readsAll_12 : decode cX4_readsAll 12 = .ok (.invokevirtual 180, 3) := by decide +kernel
theorem dX4_readsAll_15 : decode cX4_readsAll 15 = .ok (.aload_n 0, 1) := by decide +kernel
theorem dX4_readsAll_16 : decode cX4_readsAll 16 = .ok (.getfield 166, 3) := by decide +kernel
theorem dX4_readsAll_19 : decode cX4_readsAll 19 = .ok (.ifCond .eq 38, 3) := by decide +kernel
theorem dX4_readsAll_22 : decode cX4_readsAll 22 = .ok (.aload_n 0, 1) := by decide +kernel
theorem dX4_readsAll_23 : decode cX4_readsAll 23 = .ok (.getfield 163, 3) := by decide +kernel
theorem dX4_readsAll_26 : decode cX4_readsAll 26 = .ok (.aload_n 0, 1) := by decide +kernel
theorem dX4_readsAll_27 : decode cX4_readsAll 27 = .ok (.getfield 160, 3) := by decide +kernel
theorem dX4_readsAll_30 : decode cX4_readsAll 30 = .ok (.if_icmp .ge 27, 3) := by decide +kernel
theorem dX4_readsAll_33 : decode cX4_readsAll 33 = .ok (.aload_n 0, 1) := by decide +kernel
theorem dX4_readsAll_34 : decode cX4_readsAll 34 = .ok (.bipush 59, 2) := by decide +kernel
theorem dX4_readsAll_36 : decode cX4_readsAll 36 = .ok (.bipush 59, 2) := by decide +kernel
theorem dX4_readsAll_38 : decode cX4_readsAll 38 = .ok (.invokevirtual 173, 3) := by decide +kernel
theorem dX4_readsAll_41 : decode cX4_readsAll 41 = .ok (.pop, 1) := by decide +kernel
theorem dX4_readsAll_42 : decode cX4_readsAll 42 = .ok (.aload_n 0, 1) := by decide +kernel
theorem dX4_readsAll_43 : decode cX4_readsAll 43 = .ok (.getfield 166, 3) := by decide +kernel
theorem dX4_readsAll_46 : decode cX4_readsAll 46 = .ok (.ifCond .eq (-31), 3) := by decide +kernel
theorem dX4_readsAll_49 : decode cX4_readsAll 49 = .ok (.aload_n 0, 1) := by decide +kernel
theorem dX4_readsAll_50 : decode cX4_readsAll 50 = .ok (.iload_n 1, 1) := by decide +kernel
theorem dX4_readsAll_51 : decode cX4_readsAll 51 = .ok (.invokevirtual 180, 3) := by decide +kernel
theorem dX4_readsAll_54 : decode cX4_readsAll 54 = .ok (.goto (-39), 3) := by decide +kernel
theorem dX4_readsAll_57 : decode cX4_readsAll 57 = .ok (.return_, 1) := by decide +kernel
theorem dX4_firstError_0 : decode cX4_firstError 0 = .ok (.aload_n 0, 1) := by decide +kernel
theorem dX4_firstError_1 : decode cX4_firstError 1 = .ok (.iconst 0, 1) := by decide +kernel
theorem dX4_firstError_2 : decode cX4_firstError 2 = .ok (.putfield 35, 3) := by decide +kernel
theorem dX4_firstError_5 : decode cX4_firstError 5 = .ok (.aload_n 0, 1) := by decide +kernel
theorem dX4_firstError_6 : decode cX4_firstError 6 = .ok (.iconst 0, 1) := by decide +kernel
theorem dX4_firstError_7 : decode cX4_firstError 7 = .ok (.invokevirtual 184, 3) := by decide +kernel
theorem dX4_firstError_10 : decode cX4_firstError 10 = .ok (.aload_n 0, 1) := by decide +kernel
theorem dX4_firstError_11 : decode cX4_firstError 11 = .ok (.getfield 163, 3) := by decide +kernel
theorem dX4_firstError_14 : decode cX4_firstError 14 = .ok (.ireturn, 1) := by decide +kernel
theorem dX4_load_0 : decode cX4_load 0 = .ok (.aload_n 0, 1) := by decide +kernel
theorem dX4_load_1 : decode cX4_load 1 = .ok (.iconst 0, 1) := by decide +kernel
theorem dX4_load_2 : decode cX4_load 2 = .ok (.putfield 35, 3) := by decide +kernel
theorem dX4_load_5 : decode cX4_load 5 = .ok (.aload_n 0, 1) := by decide +kernel
theorem dX4_load_6 : decode cX4_load 6 = .ok (.iconst 0, 1) := by decide +kernel
theorem dX4_load_7 : decode cX4_load 7 = .ok (.invokevirtual 184, 3) := by decide +kernel
theorem dX4_load_10 : decode cX4_load 10 = .ok (.aload_n 0, 1) := by decide +kernel
theorem dX4_load_11 : decode cX4_load 11 = .ok (.getfield 166, 3) := by decide +kernel
theorem dX4_load_14 : decode cX4_load 14 = .ok (.ifCond .ne 9, 3) := by decide +kernel
theorem dX4_load_17 : decode cX4_load 17 = .ok (.aload_n 0, 1) := by decide +kernel
theorem dX4_load_18 : decode cX4_load 18 = .ok (.iconst 1, 1) := by decide +kernel
theorem dX4_load_19 : decode cX4_load 19 = .ok (.invokevirtual 118, 3) := by decide +kernel
theorem dX4_load_22 : decode cX4_load 22 = .ok (.ireturn, 1) := by decide +kernel
theorem dX4_load_23 : decode cX4_load 23 = .ok (.aload_n 0, 1) := by decide +kernel
theorem dX4_load_24 : decode cX4_load 24 = .ok (.invokevirtual 121, 3) := by decide +kernel
theorem dX4_load_27 : decode cX4_load 27 = .ok (.aload_n 0, 1) := by decide +kernel
theorem dX4_load_28 : decode cX4_load 28 = .ok (.invokevirtual 150, 3) := by decide +kernel
theorem dX4_load_31 : decode cX4_load 31 = .ok (.aload_n 0, 1) := by decide +kernel
theorem dX4_load_32 : decode cX4_load 32 = .ok (.iconst 1, 1) := by decide +kernel
theorem dX4_load_33 : decode cX4_load 33 = .ok (.invokevirtual 184, 3) := by decide +kernel
theorem dX4_load_36 : decode cX4_load 36 = .ok (.aload_n 0, 1) := by decide +kernel
theorem dX4_load_37 : decode cX4_load 37 = .ok (.iconst 0, 1) := by decide +kernel
theorem dX4_load_38 : decode cX4_load 38 = .ok (.putfield 160, 3) := by decide +kernel
theorem dX4_load_41 : decode cX4_load 41 = .ok (.iconst 0, 1) := by decide +kernel
theorem dX4_load_42 : decode cX4_load 42 = .ok (.istore_n 1, 1) := by decide +kernel
theorem dX4_load_43 : decode cX4_load 43 = .ok (.iconst 0, 1) := by decide +kernel
theorem dX4_load_44 : decode cX4_load 44 = .ok (.istore_n 2, 1) := by decide +kernel
theorem dX4_load_45 : decode cX4_load 45 = .ok (.iload_n 2, 1) := by decide +kernel
theorem dX4_load_46 : decode cX4_load 46 = .ok (.sipush 144, 3) := by decide +kernel
theorem dX4_load_49 : decode cX4_load 49 = .ok (.if_icmp .ge 36, 3) := by decide +kernel
theorem dX4_load_52 : decode cX4_load 52 = .ok (.iload_n 1, 1) := by decide +kernel
theorem dX4_load_53 : decode cX4_load 53 = .ok (.aload_n 0, 1) := by decide +kernel
theorem dX4_load_54 : decode cX4_load 54 = .ok (.getfield 32, 3) := by decide +kernel
theorem dX4_load_57 : decode cX4_load 57 = .ok (.iload_n 2, 1) := by decide +kernel
theorem dX4_load_58 : decode cX4_load 58 = .ok (.iaload, 1) := by decide +kernel
theorem dX4_load_59 : decode cX4_load 59 = .ok (.aload_n 0, 1) := by decide +kernel
theorem dX4_load_60 : decode cX4_load 60 = .ok (.getfield 7, 3) := by decide +kernel
theorem dX4_load_63 : decode cX4_load 63 = .ok (.sipush 616, 3) := by decide +kernel
theorem dX4_load_66 : decode cX4_load 66 = .ok (.iload_n 2, 1) := by decide +kernel
theorem dX4_load_67 : decode cX4_load 67 = .ok (.iadd, 1) := by decide +kernel
theorem dX4_load_68 : decode cX4_load 68 = .ok (.iaload, 1) := by decide +kernel
theorem dX4_load_69 : decode cX4_load 69 = .ok (.if_icmp .eq 7, 3) := by decide +kernel
theorem dX4_load_72 : decode cX4_load 72 = .ok (.iconst 1, 1) := by decide +kernel
theorem dX4_load_73 : decode cX4_load 73 = .ok (.goto 4, 3) := by decide +kernel
theorem dX4_load_76 : decode cX4_load 76 = .ok (.iconst 0, 1) := by decide +kernel
theorem dX4_load_77 : decode cX4_load 77 = .ok (.iadd, 1) := by decide +kernel
theorem dX4_load_78 : decode cX4_load 78 = .ok (.istore_n 1, 1) := by decide +kernel
theorem dX4_load_79 : decode cX4_load 79 = .ok (.iinc 2 1, 3) := by decide +kernel
theorem dX4_load_82 : decode cX4_load 82 = .ok (.goto (-37), 3) := by decide +kernel
theorem dX4_load_85 : decode cX4_load 85 = .ok (.iload_n 1, 1) := by decide +kernel
theorem dX4_load_86 : decode cX4_load 86 = .ok (.ireturn, 1) := by decide +kernel
theorem dX4_keep_0 : decode cX4_keep 0 = .ok (.aload_n 0, 1) := by decide +kernel
theorem dX4_keep_1 : decode cX4_keep 1 = .ok (.iconst 0, 1) := by decide +kernel
theorem dX4_keep_2 : decode cX4_keep 2 = .ok (.putfield 35, 3) := by decide +kernel
theorem dX4_keep_5 : decode cX4_keep 5 = .ok (.iload_n 1, 1) := by decide +kernel
theorem dX4_keep_6 : decode cX4_keep 6 = .ok (.iconst 0, 1) := by decide +kernel
theorem dX4_keep_7 : decode cX4_keep 7 = .ok (.iconst 1, 1) := by decide +kernel
theorem dX4_keep_8 : decode cX4_keep 8 = .ok (.invokestatic 42, 3) := by decide +kernel
theorem dX4_keep_11 : decode cX4_keep 11 = .ok (.ifCond .ne 9, 3) := by decide +kernel
theorem dX4_keep_14 : decode cX4_keep 14 = .ok (.aload_n 0, 1) := by decide +kernel
theorem dX4_keep_15 : decode cX4_keep 15 = .ok (.iconst 1, 1) := by decide +kernel
theorem dX4_keep_16 : decode cX4_keep 16 = .ok (.invokevirtual 118, 3) := by decide +kernel
theorem dX4_keep_19 : decode cX4_keep 19 = .ok (.ireturn, 1) := by decide +kernel
theorem dX4_keep_20 : decode cX4_keep 20 = .ok (.iconst 0, 1) := by decide +kernel
theorem dX4_keep_21 : decode cX4_keep 21 = .ok (.istore_n 2, 1) := by decide +kernel
theorem dX4_keep_22 : decode cX4_keep 22 = .ok (.iload_n 2, 1) := by decide +kernel
theorem dX4_keep_23 : decode cX4_keep 23 = .ok (.sipush 904, 3) := by decide +kernel
theorem dX4_keep_26 : decode cX4_keep 26 = .ok (.if_icmp .ge 27, 3) := by decide +kernel
theorem dX4_keep_29 : decode cX4_keep 29 = .ok (.aload_n 0, 1) := by decide +kernel
theorem dX4_keep_30 : decode cX4_keep 30 = .ok (.getfield 16, 3) := by decide +kernel
theorem dX4_keep_33 : decode cX4_keep 33 = .ok (.sipush 904, 3) := by decide +kernel
theorem dX4_keep_36 : decode cX4_keep 36 = .ok (.iload_n 1, 1) := by decide +kernel
theorem dX4_keep_37 : decode cX4_keep 37 = .ok (.imul, 1) := by decide +kernel
theorem dX4_keep_38 : decode cX4_keep 38 = .ok (.iload_n 2, 1) := by decide +kernel
theorem dX4_keep_39 : decode cX4_keep 39 = .ok (.iadd, 1) := by decide +kernel
theorem dX4_keep_40 : decode cX4_keep 40 = .ok (.aload_n 0, 1) := by decide +kernel
theorem dX4_keep_41 : decode cX4_keep 41 = .ok (.getfield 7, 3) := by decide +kernel
theorem dX4_keep_44 : decode cX4_keep 44 = .ok (.iload_n 2, 1) := by decide +kernel
theorem dX4_keep_45 : decode cX4_keep 45 = .ok (.iaload, 1) := by decide +kernel
theorem dX4_keep_46 : decode cX4_keep 46 = .ok (.iastore, 1) := by decide +kernel
theorem dX4_keep_47 : decode cX4_keep 47 = .ok (.iinc 2 1, 3) := by decide +kernel
theorem dX4_keep_50 : decode cX4_keep 50 = .ok (.goto (-28), 3) := by decide +kernel
theorem dX4_keep_53 : decode cX4_keep 53 = .ok (.aload_n 0, 1) := by decide +kernel
theorem dX4_keep_54 : decode cX4_keep 54 = .ok (.getfield 19, 3) := by decide +kernel
theorem dX4_keep_57 : decode cX4_keep 57 = .ok (.iload_n 1, 1) := by decide +kernel
theorem dX4_keep_58 : decode cX4_keep 58 = .ok (.iconst 1, 1) := by decide +kernel
theorem dX4_keep_59 : decode cX4_keep 59 = .ok (.bastore, 1) := by decide +kernel
theorem dX4_keep_60 : decode cX4_keep 60 = .ok (.aload_n 0, 1) := by decide +kernel
theorem dX4_keep_61 : decode cX4_keep 61 = .ok (.getfield 7, 3) := by decide +kernel
theorem dX4_keep_64 : decode cX4_keep 64 = .ok (.bipush 15, 2) := by decide +kernel
theorem dX4_keep_66 : decode cX4_keep 66 = .ok (.iaload, 1) := by decide +kernel
theorem dX4_keep_67 : decode cX4_keep 67 = .ok (.ireturn, 1) := by decide +kernel
theorem dX4_goBack_0 : decode cX4_goBack 0 = .ok (.aload_n 0, 1) := by decide +kernel
theorem dX4_goBack_1 : decode cX4_goBack 1 = .ok (.iconst 0, 1) := by decide +kernel
theorem dX4_goBack_2 : decode cX4_goBack 2 = .ok (.putfield 35, 3) := by decide +kernel
theorem dX4_goBack_5 : decode cX4_goBack 5 = .ok (.iload_n 1, 1) := by decide +kernel
theorem dX4_goBack_6 : decode cX4_goBack 6 = .ok (.iconst 0, 1) := by decide +kernel
theorem dX4_goBack_7 : decode cX4_goBack 7 = .ok (.iconst 1, 1) := by decide +kernel
theorem dX4_goBack_8 : decode cX4_goBack 8 = .ok (.invokestatic 42, 3) := by decide +kernel
theorem dX4_goBack_11 : decode cX4_goBack 11 = .ok (.ifCond .ne 9, 3) := by decide +kernel
theorem dX4_goBack_14 : decode cX4_goBack 14 = .ok (.aload_n 0, 1) := by decide +kernel
theorem dX4_goBack_15 : decode cX4_goBack 15 = .ok (.iconst 1, 1) := by decide +kernel
theorem dX4_goBack_16 : decode cX4_goBack 16 = .ok (.invokevirtual 118, 3) := by decide +kernel
theorem dX4_goBack_19 : decode cX4_goBack 19 = .ok (.ireturn, 1) := by decide +kernel
theorem dX4_goBack_20 : decode cX4_goBack 20 = .ok (.aload_n 0, 1) := by decide +kernel
theorem dX4_goBack_21 : decode cX4_goBack 21 = .ok (.getfield 19, 3) := by decide +kernel
theorem dX4_goBack_24 : decode cX4_goBack 24 = .ok (.iload_n 1, 1) := by decide +kernel
theorem dX4_goBack_25 : decode cX4_goBack 25 = .ok (.baload, 1) := by decide +kernel
theorem dX4_goBack_26 : decode cX4_goBack 26 = .ok (.ifCond .ne 9, 3) := by decide +kernel
theorem dX4_goBack_29 : decode cX4_goBack 29 = .ok (.aload_n 0, 1) := by decide +kernel
theorem dX4_goBack_30 : decode cX4_goBack 30 = .ok (.iconst 2, 1) := by decide +kernel
theorem dX4_goBack_31 : decode cX4_goBack 31 = .ok (.invokevirtual 118, 3) := by decide +kernel
theorem dX4_goBack_34 : decode cX4_goBack 34 = .ok (.ireturn, 1) := by decide +kernel
theorem dX4_goBack_35 : decode cX4_goBack 35 = .ok (.aload_n 0, 1) := by decide +kernel
theorem dX4_goBack_36 : decode cX4_goBack 36 = .ok (.invokevirtual 121, 3) := by decide +kernel
theorem dX4_goBack_39 : decode cX4_goBack 39 = .ok (.iconst 0, 1) := by decide +kernel
theorem dX4_goBack_40 : decode cX4_goBack 40 = .ok (.istore_n 2, 1) := by decide +kernel
theorem dX4_goBack_41 : decode cX4_goBack 41 = .ok (.iload_n 2, 1) := by decide +kernel
theorem dX4_goBack_42 : decode cX4_goBack 42 = .ok (.sipush 904, 3) := by decide +kernel
theorem dX4_goBack_45 : decode cX4_goBack 45 = .ok (.if_icmp .ge 27, 3) := by decide +kernel
theorem dX4_goBack_48 : decode cX4_goBack 48 = .ok (.aload_n 0, 1) := by decide +kernel
theorem dX4_goBack_49 : decode cX4_goBack 49 = .ok (.getfield 7, 3) := by decide +kernel
theorem dX4_goBack_52 : decode cX4_goBack 52 = .ok (.iload_n 2, 1) := by decide +kernel
theorem dX4_goBack_53 : decode cX4_goBack 53 = .ok (.aload_n 0, 1) := by decide +kernel
theorem dX4_goBack_54 : decode cX4_goBack 54 = .ok (.getfield 16, 3) := by decide +kernel
theorem dX4_goBack_57 : decode cX4_goBack 57 = .ok (.sipush 904, 3) := by decide +kernel
theorem dX4_goBack_60 : decode cX4_goBack 60 = .ok (.iload_n 1, 1) := by decide +kernel
theorem dX4_goBack_61 : decode cX4_goBack 61 = .ok (.imul, 1) := by decide +kernel
theorem dX4_goBack_62 : decode cX4_goBack 62 = .ok (.iload_n 2, 1) := by decide +kernel
theorem dX4_goBack_63 : decode cX4_goBack 63 = .ok (.iadd, 1) := by decide +kernel
theorem dX4_goBack_64 : decode cX4_goBack 64 = .ok (.iaload, 1) := by decide +kernel
theorem dX4_goBack_65 : decode cX4_goBack 65 = .ok (.iastore, 1) := by decide +kernel
theorem dX4_goBack_66 : decode cX4_goBack 66 = .ok (.iinc 2 1, 3) := by decide +kernel
theorem dX4_goBack_69 : decode cX4_goBack 69 = .ok (.goto (-28), 3) := by decide +kernel
theorem dX4_goBack_72 : decode cX4_goBack 72 = .ok (.aload_n 0, 1) := by decide +kernel
theorem dX4_goBack_73 : decode cX4_goBack 73 = .ok (.getfield 7, 3) := by decide +kernel
theorem dX4_goBack_76 : decode cX4_goBack 76 = .ok (.bipush 15, 2) := by decide +kernel
theorem dX4_goBack_78 : decode cX4_goBack 78 = .ok (.iaload, 1) := by decide +kernel
theorem dX4_goBack_79 : decode cX4_goBack 79 = .ok (.ireturn, 1) := by decide +kernel
theorem dX4_undo_0 : decode cX4_undo 0 = .ok (.aload_n 0, 1) := by decide +kernel
theorem dX4_undo_1 : decode cX4_undo 1 = .ok (.iconst 0, 1) := by decide +kernel
theorem dX4_undo_2 : decode cX4_undo 2 = .ok (.putfield 35, 3) := by decide +kernel
theorem dX4_undo_5 : decode cX4_undo 5 = .ok (.aload_n 0, 1) := by decide +kernel
theorem dX4_undo_6 : decode cX4_undo 6 = .ok (.getfield 39, 3) := by decide +kernel
theorem dX4_undo_9 : decode cX4_undo 9 = .ok (.ifCond .ne 9, 3) := by decide +kernel
theorem dX4_undo_12 : decode cX4_undo 12 = .ok (.aload_n 0, 1) := by decide +kernel
theorem dX4_undo_13 : decode cX4_undo 13 = .ok (.iconst 1, 1) := by decide +kernel
theorem dX4_undo_14 : decode cX4_undo 14 = .ok (.invokevirtual 118, 3) := by decide +kernel
theorem dX4_undo_17 : decode cX4_undo 17 = .ok (.ireturn, 1) := by decide +kernel
theorem dX4_undo_18 : decode cX4_undo 18 = .ok (.aload_n 0, 1) := by decide +kernel
theorem dX4_undo_19 : decode cX4_undo 19 = .ok (.dup, 1) := by decide +kernel
theorem dX4_undo_20 : decode cX4_undo 20 = .ok (.getfield 39, 3) := by decide +kernel
theorem dX4_undo_23 : decode cX4_undo 23 = .ok (.iconst 1, 1) := by decide +kernel
theorem dX4_undo_24 : decode cX4_undo 24 = .ok (.isub, 1) := by decide +kernel
theorem dX4_undo_25 : decode cX4_undo 25 = .ok (.putfield 39, 3) := by decide +kernel
theorem dX4_undo_28 : decode cX4_undo 28 = .ok (.iconst 0, 1) := by decide +kernel
theorem dX4_undo_29 : decode cX4_undo 29 = .ok (.istore_n 1, 1) := by decide +kernel
theorem dX4_undo_30 : decode cX4_undo 30 = .ok (.iload_n 1, 1) := by decide +kernel
theorem dX4_undo_31 : decode cX4_undo 31 = .ok (.sipush 904, 3) := by decide +kernel
theorem dX4_undo_34 : decode cX4_undo 34 = .ok (.if_icmp .ge 30, 3) := by decide +kernel
theorem dX4_undo_37 : decode cX4_undo 37 = .ok (.aload_n 0, 1) := by decide +kernel
theorem dX4_undo_38 : decode cX4_undo 38 = .ok (.getfield 7, 3) := by decide +kernel
theorem dX4_undo_41 : decode cX4_undo 41 = .ok (.iload_n 1, 1) := by decide +kernel
theorem dX4_undo_42 : decode cX4_undo 42 = .ok (.aload_n 0, 1) := by decide +kernel
theorem dX4_undo_43 : decode cX4_undo 43 = .ok (.getfield 13, 3) := by decide +kernel
theorem dX4_undo_46 : decode cX4_undo 46 = .ok (.sipush 904, 3) := by decide +kernel
theorem dX4_undo_49 : decode cX4_undo 49 = .ok (.aload_n 0, 1) := by decide +kernel
theorem dX4_undo_50 : decode cX4_undo 50 = .ok (.getfield 39, 3) := by decide +kernel
theorem dX4_undo_53 : decode cX4_undo 53 = .ok (.imul, 1) := by decide +kernel
theorem dX4_undo_54 : decode cX4_undo 54 = .ok (.iload_n 1, 1) := by decide +kernel
theorem dX4_undo_55 : decode cX4_undo 55 = .ok (.iadd, 1) := by decide +kernel
theorem dX4_undo_56 : decode cX4_undo 56 = .ok (.iaload, 1) := by decide +kernel
theorem dX4_undo_57 : decode cX4_undo 57 = .ok (.iastore, 1) := by decide +kernel
theorem dX4_undo_58 : decode cX4_undo 58 = .ok (.iinc 1 1, 3) := by decide +kernel
theorem dX4_undo_61 : decode cX4_undo 61 = .ok (.goto (-31), 3) := by decide +kernel
theorem dX4_undo_64 : decode cX4_undo 64 = .ok (.aload_n 0, 1) := by decide +kernel
theorem dX4_undo_65 : decode cX4_undo 65 = .ok (.getfield 39, 3) := by decide +kernel
theorem dX4_undo_68 : decode cX4_undo 68 = .ok (.ireturn, 1) := by decide +kernel
theorem dX4_ends_0 : decode cX4_ends 0 = .ok (.iconst 0, 1) := by decide +kernel
theorem dX4_ends_1 : decode cX4_ends 1 = .ok (.istore_n 2, 1) := by decide +kernel
theorem dX4_ends_2 : decode cX4_ends 2 = .ok (.iconst 0, 1) := by decide +kernel
theorem dX4_ends_3 : decode cX4_ends 3 = .ok (.istore_n 3, 1) := by decide +kernel
theorem dX4_ends_4 : decode cX4_ends 4 = .ok (.iload_n 3, 1) := by decide +kernel
theorem dX4_ends_5 : decode cX4_ends 5 = .ok (.aload_n 0, 1) := by decide +kernel
theorem dX4_ends_6 : decode cX4_ends 6 = .ok (.getfield 7, 3) := by decide +kernel
theorem dX4_ends_9 : decode cX4_ends 9 = .ok (.bipush 15, 2) := by decide +kernel
theorem dX4_ends_11 : decode cX4_ends 11 = .ok (.iaload, 1) := by decide +kernel
theorem dX4_ends_12 : decode cX4_ends 12 = .ok (.if_icmp .ge 45, 3) := by decide +kernel
theorem dX4_ends_15 : decode cX4_ends 15 = .ok (.iload_n 2, 1) := by decide +kernel
theorem dX4_ends_16 : decode cX4_ends 16 = .ok (.aload_n 0, 1) := by decide +kernel
theorem dX4_ends_17 : decode cX4_ends 17 = .ok (.iload_n 3, 1) := by decide +kernel
theorem dX4_ends_18 : decode cX4_ends 18 = .ok (.iconst 0, 1) := by decide +kernel
theorem dX4_ends_19 : decode cX4_ends 19 = .ok (.invokevirtual 78, 3) := by decide +kernel
theorem dX4_ends_22 : decode cX4_ends 22 = .ok (.iload_n 1, 1) := by decide +kernel
theorem dX4_ends_23 : decode cX4_ends 23 = .ok (.if_icmp .ne 7, 3) := by decide +kernel
theorem dX4_ends_26 : decode cX4_ends 26 = .ok (.iconst 1, 1) := by decide +kernel
theorem dX4_ends_27 : decode cX4_ends 27 = .ok (.goto 4, 3) := by decide +kernel
theorem dX4_ends_30 : decode cX4_ends 30 = .ok (.iconst 0, 1) := by decide +kernel
theorem dX4_ends_31 : decode cX4_ends 31 = .ok (.iadd, 1) := by decide +kernel
theorem dX4_ends_32 : decode cX4_ends 32 = .ok (.istore_n 2, 1) := by decide +kernel
theorem dX4_ends_33 : decode cX4_ends 33 = .ok (.iload_n 2, 1) := by decide +kernel
theorem dX4_ends_34 : decode cX4_ends 34 = .ok (.aload_n 0, 1) := by decide +kernel
theorem dX4_ends_35 : decode cX4_ends 35 = .ok (.iload_n 3, 1) := by decide +kernel
theorem dX4_ends_36 : decode cX4_ends 36 = .ok (.iconst 1, 1) := by decide +kernel
theorem dX4_ends_37 : decode cX4_ends 37 = .ok (.invokevirtual 78, 3) := by decide +kernel
theorem dX4_ends_40 : decode cX4_ends 40 = .ok (.iload_n 1, 1) := by decide +kernel
theorem dX4_ends_41 : decode cX4_ends 41 = .ok (.if_icmp .ne 7, 3) := by decide +kernel
theorem dX4_ends_44 : decode cX4_ends 44 = .ok (.iconst 1, 1) := by decide +kernel
theorem dX4_ends_45 : decode cX4_ends 45 = .ok (.goto 4, 3) := by decide +kernel
theorem dX4_ends_48 : decode cX4_ends 48 = .ok (.iconst 0, 1) := by decide +kernel
theorem dX4_ends_49 : decode cX4_ends 49 = .ok (.iadd, 1) := by decide +kernel
theorem dX4_ends_50 : decode cX4_ends 50 = .ok (.istore_n 2, 1) := by decide +kernel
theorem dX4_ends_51 : decode cX4_ends 51 = .ok (.iinc 3 1, 3) := by decide +kernel
theorem dX4_ends_54 : decode cX4_ends 54 = .ok (.goto (-50), 3) := by decide +kernel
theorem dX4_ends_57 : decode cX4_ends 57 = .ok (.iload_n 2, 1) := by decide +kernel
theorem dX4_ends_58 : decode cX4_ends 58 = .ok (.ireturn, 1) := by decide +kernel
theorem dX4_tellsNail_0 : decode cX4_tellsNail 0 = .ok (.iload_n 2, 1) := by decide +kernel
theorem dX4_tellsNail_1 : decode cX4_tellsNail 1 = .ok (.tableswitch 45 0 2 #[27, 33, 39], 27) := by decide +kernel
theorem dX4_tellsNail_28 : decode cX4_tellsNail 28 = .ok (.aload_n 0, 1) := by decide +kernel
theorem dX4_tellsNail_29 : decode cX4_tellsNail 29 = .ok (.iload_n 1, 1) := by decide +kernel
theorem dX4_tellsNail_30 : decode cX4_tellsNail 30 = .ok (.invokevirtual 53, 3) := by decide +kernel
theorem dX4_tellsNail_33 : decode cX4_tellsNail 33 = .ok (.ireturn, 1) := by decide +kernel
theorem dX4_tellsNail_34 : decode cX4_tellsNail 34 = .ok (.aload_n 0, 1) := by decide +kernel
theorem dX4_tellsNail_35 : decode cX4_tellsNail 35 = .ok (.iload_n 1, 1) := by decide +kernel
theorem dX4_tellsNail_36 : decode cX4_tellsNail 36 = .ok (.invokevirtual 56, 3) := by decide +kernel
theorem dX4_tellsNail_39 : decode cX4_tellsNail 39 = .ok (.ireturn, 1) := by decide +kernel
theorem dX4_tellsNail_40 : decode cX4_tellsNail 40 = .ok (.aload_n 0, 1) := by decide +kernel
theorem dX4_tellsNail_41 : decode cX4_tellsNail 41 = .ok (.iload_n 1, 1) := by decide +kernel
theorem dX4_tellsNail_42 : decode cX4_tellsNail 42 = .ok (.invokevirtual 187, 3) := by decide +kernel
theorem dX4_tellsNail_45 : decode cX4_tellsNail 45 = .ok (.ireturn, 1) := by decide +kernel
theorem dX4_tellsNail_46 : decode cX4_tellsNail 46 = .ok (.aload_n 0, 1) := by decide +kernel
theorem dX4_tellsNail_47 : decode cX4_tellsNail 47 = .ok (.getfield 7, 3) := by decide +kernel
theorem dX4_tellsNail_50 : decode cX4_tellsNail 50 = .ok (.iconst 1, 1) := by decide +kernel
theorem dX4_tellsNail_51 : decode cX4_tellsNail 51 = .ok (.iaload, 1) := by decide +kernel
theorem dX4_tellsNail_52 : decode cX4_tellsNail 52 = .ok (.iload_n 1, 1) := by decide +kernel
theorem dX4_tellsNail_53 : decode cX4_tellsNail 53 = .ok (.if_icmp .ne 7, 3) := by decide +kernel
theorem dX4_tellsNail_56 : decode cX4_tellsNail 56 = .ok (.iconst 1, 1) := by decide +kernel
theorem dX4_tellsNail_57 : decode cX4_tellsNail 57 = .ok (.goto 4, 3) := by decide +kernel
theorem dX4_tellsNail_60 : decode cX4_tellsNail 60 = .ok (.iconst 0, 1) := by decide +kernel
theorem dX4_tellsNail_61 : decode cX4_tellsNail 61 = .ok (.ireturn, 1) := by decide +kernel
theorem dX4_nailOf_0 : decode cX4_nailOf 0 = .ok (.aload_n 0, 1) := by decide +kernel
theorem dX4_nailOf_1 : decode cX4_nailOf 1 = .ok (.iconst 0, 1) := by decide +kernel
theorem dX4_nailOf_2 : decode cX4_nailOf 2 = .ok (.putfield 35, 3) := by decide +kernel
theorem dX4_nailOf_5 : decode cX4_nailOf 5 = .ok (.aload_n 0, 1) := by decide +kernel
theorem dX4_nailOf_6 : decode cX4_nailOf 6 = .ok (.iload_n 1, 1) := by decide +kernel
theorem dX4_nailOf_7 : decode cX4_nailOf 7 = .ok (.invokevirtual 134, 3) := by decide +kernel
theorem dX4_nailOf_10 : decode cX4_nailOf 10 = .ok (.ifCond .ne 9, 3) := by decide +kernel
theorem dX4_nailOf_13 : decode cX4_nailOf 13 = .ok (.aload_n 0, 1) := by decide +kernel
theorem dX4_nailOf_14 : decode cX4_nailOf 14 = .ok (.iconst 1, 1) := by decide +kernel
theorem dX4_nailOf_15 : decode cX4_nailOf 15 = .ok (.invokevirtual 118, 3) := by decide +kernel
theorem dX4_nailOf_18 : decode cX4_nailOf 18 = .ok (.ireturn, 1) := by decide +kernel
theorem dX4_nailOf_19 : decode cX4_nailOf 19 = .ok (.iload_n 2, 1) := by decide +kernel
theorem dX4_nailOf_20 : decode cX4_nailOf 20 = .ok (.iconst 0, 1) := by decide +kernel
theorem dX4_nailOf_21 : decode cX4_nailOf 21 = .ok (.iconst 3, 1) := by decide +kernel
theorem dX4_nailOf_22 : decode cX4_nailOf 22 = .ok (.invokestatic 42, 3) := by decide +kernel
theorem dX4_nailOf_25 : decode cX4_nailOf 25 = .ok (.ifCond .eq 12, 3) := by decide +kernel
theorem dX4_nailOf_28 : decode cX4_nailOf 28 = .ok (.aload_n 0, 1) := by decide +kernel
theorem dX4_nailOf_29 : decode cX4_nailOf 29 = .ok (.iload_n 1, 1) := by decide +kernel
theorem dX4_nailOf_30 : decode cX4_nailOf 30 = .ok (.iload_n 2, 1) := by decide +kernel
theorem dX4_nailOf_31 : decode cX4_nailOf 31 = .ok (.invokevirtual 190, 3) := by decide +kernel
theorem dX4_nailOf_34 : decode cX4_nailOf 34 = .ok (.goto 8, 3) := by decide +kernel
theorem dX4_nailOf_37 : decode cX4_nailOf 37 = .ok (.aload_n 0, 1) := by decide +kernel
theorem dX4_nailOf_38 : decode cX4_nailOf 38 = .ok (.iconst 2, 1) := by decide +kernel
theorem dX4_nailOf_39 : decode cX4_nailOf 39 = .ok (.invokevirtual 118, 3) := by decide +kernel
theorem dX4_nailOf_42 : decode cX4_nailOf 42 = .ok (.ireturn, 1) := by decide +kernel
theorem dX4_threadOf_0 : decode cX4_threadOf 0 = .ok (.iconst 0, 1) := by decide +kernel
theorem dX4_threadOf_1 : decode cX4_threadOf 1 = .ok (.istore_n 2, 1) := by decide +kernel
theorem dX4_threadOf_2 : decode cX4_threadOf 2 = .ok (.iconst 0, 1) := by decide +kernel
theorem dX4_threadOf_3 : decode cX4_threadOf 3 = .ok (.istore_n 3, 1) := by decide +kernel
theorem dX4_threadOf_4 : decode cX4_threadOf 4 = .ok (.iload_n 3, 1) := by decide +kernel
theorem dX4_threadOf_5 : decode cX4_threadOf 5 = .ok (.aload_n 0, 1) := by decide +kernel
theorem dX4_threadOf_6 : decode cX4_threadOf 6 = .ok (.getfield 7, 3) := by decide +kernel
theorem dX4_threadOf_9 : decode cX4_threadOf 9 = .ok (.bipush 15, 2) := by decide +kernel
theorem dX4_threadOf_11 : decode cX4_threadOf 11 = .ok (.iaload, 1) := by decide +kernel
theorem dX4_threadOf_12 : decode cX4_threadOf 12 = .ok (.if_icmp .ge 42, 3) := by decide +kernel
theorem dX4_threadOf_15 : decode cX4_threadOf 15 = .ok (.iload_n 2, 1) := by decide +kernel
theorem dX4_threadOf_16 : decode cX4_threadOf 16 = .ok (.aload_n 0, 1) := by decide +kernel
theorem dX4_threadOf_17 : decode cX4_threadOf 17 = .ok (.iload_n 3, 1) := by decide +kernel
theorem dX4_threadOf_18 : decode cX4_threadOf 18 = .ok (.iconst 2, 1) := by decide +kernel
theorem dX4_threadOf_19 : decode cX4_threadOf 19 = .ok (.invokevirtual 78, 3) := by decide +kernel
theorem dX4_threadOf_22 : decode cX4_threadOf 22 = .ok (.iload_n 1, 1) := by decide +kernel
theorem dX4_threadOf_23 : decode cX4_threadOf 23 = .ok (.if_icmp .ne 22, 3) := by decide +kernel
theorem dX4_threadOf_26 : decode cX4_threadOf 26 = .ok (.aload_n 0, 1) := by decide +kernel
theorem dX4_threadOf_27 : decode cX4_threadOf 27 = .ok (.aload_n 0, 1) := by decide +kernel
theorem dX4_threadOf_28 : decode cX4_threadOf 28 = .ok (.iload_n 3, 1) := by decide +kernel
theorem dX4_threadOf_29 : decode cX4_threadOf 29 = .ok (.iconst 0, 1) := by decide +kernel
theorem dX4_threadOf_30 : decode cX4_threadOf 30 = .ok (.invokevirtual 78, 3) := by decide +kernel
theorem dX4_threadOf_33 : decode cX4_threadOf 33 = .ok (.aload_n 0, 1) := by decide +kernel
theorem dX4_threadOf_34 : decode cX4_threadOf 34 = .ok (.iload_n 3, 1) := by decide +kernel
theorem dX4_threadOf_35 : decode cX4_threadOf 35 = .ok (.iconst 1, 1) := by decide +kernel
theorem dX4_threadOf_36 : decode cX4_threadOf 36 = .ok (.invokevirtual 78, 3) := by decide +kernel
theorem dX4_threadOf_39 : decode cX4_threadOf 39 = .ok (.invokevirtual 95, 3) := by decide +kernel
theorem dX4_threadOf_42 : decode cX4_threadOf 42 = .ok (.goto 4, 3) := by decide +kernel
theorem dX4_threadOf_45 : decode cX4_threadOf 45 = .ok (.iconst 0, 1) := by decide +kernel
theorem dX4_threadOf_46 : decode cX4_threadOf 46 = .ok (.iadd, 1) := by decide +kernel
theorem dX4_threadOf_47 : decode cX4_threadOf 47 = .ok (.istore_n 2, 1) := by decide +kernel
theorem dX4_threadOf_48 : decode cX4_threadOf 48 = .ok (.iinc 3 1, 3) := by decide +kernel
theorem dX4_threadOf_51 : decode cX4_threadOf 51 = .ok (.goto (-47), 3) := by decide +kernel
theorem dX4_threadOf_54 : decode cX4_threadOf 54 = .ok (.iload_n 2, 1) := by decide +kernel
theorem dX4_threadOf_55 : decode cX4_threadOf 55 = .ok (.ireturn, 1) := by decide +kernel
theorem dX4_tellsSpool_0 : decode cX4_tellsSpool 0 = .ok (.iload_n 2, 1) := by decide +kernel
theorem dX4_tellsSpool_1 : decode cX4_tellsSpool 1 = .ok (.tableswitch 55 0 3 #[31, 37, 43, 49], 31) := by decide +kernel
theorem dX4_tellsSpool_32 : decode cX4_tellsSpool 32 = .ok (.aload_n 0, 1) := by decide +kernel
theorem dX4_tellsSpool_33 : decode cX4_tellsSpool 33 = .ok (.iload_n 1, 1) := by decide +kernel
theorem dX4_tellsSpool_34 : decode cX4_tellsSpool 34 = .ok (.invokevirtual 88, 3) := by decide +kernel
theorem dX4_tellsSpool_37 : decode cX4_tellsSpool 37 = .ok (.ireturn, 1) := by decide +kernel
theorem dX4_tellsSpool_38 : decode cX4_tellsSpool 38 = .ok (.aload_n 0, 1) := by decide +kernel
theorem dX4_tellsSpool_39 : decode cX4_tellsSpool 39 = .ok (.iload_n 1, 1) := by decide +kernel
theorem dX4_tellsSpool_40 : decode cX4_tellsSpool 40 = .ok (.invokevirtual 101, 3) := by decide +kernel
theorem dX4_tellsSpool_43 : decode cX4_tellsSpool 43 = .ok (.ireturn, 1) := by decide +kernel
theorem dX4_tellsSpool_44 : decode cX4_tellsSpool 44 = .ok (.aload_n 0, 1) := by decide +kernel
theorem dX4_tellsSpool_45 : decode cX4_tellsSpool 45 = .ok (.iload_n 1, 1) := by decide +kernel
theorem dX4_tellsSpool_46 : decode cX4_tellsSpool 46 = .ok (.invokevirtual 193, 3) := by decide +kernel
theorem dX4_tellsSpool_49 : decode cX4_tellsSpool 49 = .ok (.ireturn, 1) := by decide +kernel
theorem dX4_tellsSpool_50 : decode cX4_tellsSpool 50 = .ok (.aload_n 0, 1) := by decide +kernel
theorem dX4_tellsSpool_51 : decode cX4_tellsSpool 51 = .ok (.iload_n 1, 1) := by decide +kernel
theorem dX4_tellsSpool_52 : decode cX4_tellsSpool 52 = .ok (.invokevirtual 131, 3) := by decide +kernel
theorem dX4_tellsSpool_55 : decode cX4_tellsSpool 55 = .ok (.ireturn, 1) := by decide +kernel
theorem dX4_tellsSpool_56 : decode cX4_tellsSpool 56 = .ok (.aload_n 0, 1) := by decide +kernel
theorem dX4_tellsSpool_57 : decode cX4_tellsSpool 57 = .ok (.getfield 7, 3) := by decide +kernel
theorem dX4_tellsSpool_60 : decode cX4_tellsSpool 60 = .ok (.iconst 2, 1) := by decide +kernel
theorem dX4_tellsSpool_61 : decode cX4_tellsSpool 61 = .ok (.iaload, 1) := by decide +kernel
theorem dX4_tellsSpool_62 : decode cX4_tellsSpool 62 = .ok (.iload_n 1, 1) := by decide +kernel
theorem dX4_tellsSpool_63 : decode cX4_tellsSpool 63 = .ok (.if_icmp .ne 7, 3) := by decide +kernel
theorem dX4_tellsSpool_66 : decode cX4_tellsSpool 66 = .ok (.iconst 1, 1) := by decide +kernel
theorem dX4_tellsSpool_67 : decode cX4_tellsSpool 67 = .ok (.goto 4, 3) := by decide +kernel
theorem dX4_tellsSpool_70 : decode cX4_tellsSpool 70 = .ok (.iconst 0, 1) := by decide +kernel
theorem dX4_tellsSpool_71 : decode cX4_tellsSpool 71 = .ok (.ireturn, 1) := by decide +kernel
theorem dX4_spoolOf_0 : decode cX4_spoolOf 0 = .ok (.aload_n 0, 1) := by decide +kernel
theorem dX4_spoolOf_1 : decode cX4_spoolOf 1 = .ok (.iconst 0, 1) := by decide +kernel
theorem dX4_spoolOf_2 : decode cX4_spoolOf 2 = .ok (.putfield 35, 3) := by decide +kernel
theorem dX4_spoolOf_5 : decode cX4_spoolOf 5 = .ok (.iload_n 1, 1) := by decide +kernel
theorem dX4_spoolOf_6 : decode cX4_spoolOf 6 = .ok (.invokestatic 127, 3) := by decide +kernel
theorem dX4_spoolOf_9 : decode cX4_spoolOf 9 = .ok (.ifCond .ne 9, 3) := by decide +kernel
theorem dX4_spoolOf_12 : decode cX4_spoolOf 12 = .ok (.aload_n 0, 1) := by decide +kernel
theorem dX4_spoolOf_13 : decode cX4_spoolOf 13 = .ok (.iconst 1, 1) := by decide +kernel
theorem dX4_spoolOf_14 : decode cX4_spoolOf 14 = .ok (.invokevirtual 118, 3) := by decide +kernel
theorem dX4_spoolOf_17 : decode cX4_spoolOf 17 = .ok (.ireturn, 1) := by decide +kernel
theorem dX4_spoolOf_18 : decode cX4_spoolOf 18 = .ok (.iload_n 2, 1) := by decide +kernel
theorem dX4_spoolOf_19 : decode cX4_spoolOf 19 = .ok (.iconst 0, 1) := by decide +kernel
theorem dX4_spoolOf_20 : decode cX4_spoolOf 20 = .ok (.iconst 4, 1) := by decide +kernel
theorem dX4_spoolOf_21 : decode cX4_spoolOf 21 = .ok (.invokestatic 42, 3) := by decide +kernel
theorem dX4_spoolOf_24 : decode cX4_spoolOf 24 = .ok (.ifCond .eq 12, 3) := by decide +kernel
theorem dX4_spoolOf_27 : decode cX4_spoolOf 27 = .ok (.aload_n 0, 1) := by decide +kernel
theorem dX4_spoolOf_28 : decode cX4_spoolOf 28 = .ok (.iload_n 1, 1) := by decide +kernel
theorem dX4_spoolOf_29 : decode cX4_spoolOf 29 = .ok (.iload_n 2, 1) := by decide +kernel
theorem dX4_spoolOf_30 : decode cX4_spoolOf 30 = .ok (.invokevirtual 196, 3) := by decide +kernel
theorem dX4_spoolOf_33 : decode cX4_spoolOf 33 = .ok (.goto 8, 3) := by decide +kernel
theorem dX4_spoolOf_36 : decode cX4_spoolOf 36 = .ok (.aload_n 0, 1) := by decide +kernel
theorem dX4_spoolOf_37 : decode cX4_spoolOf 37 = .ok (.iconst 2, 1) := by decide +kernel
theorem dX4_spoolOf_38 : decode cX4_spoolOf 38 = .ok (.invokevirtual 118, 3) := by decide +kernel
theorem dX4_spoolOf_41 : decode cX4_spoolOf 41 = .ok (.ireturn, 1) := by decide +kernel
theorem dX4_tellsChord_0 : decode cX4_tellsChord 0 = .ok (.iload_n 1, 1) := by decide +kernel
theorem dX4_tellsChord_1 : decode cX4_tellsChord 1 = .ok (.iload_n 2, 1) := by decide +kernel
theorem dX4_tellsChord_2 : decode cX4_tellsChord 2 = .ok (.if_icmp .ne 5, 3) := by decide +kernel
theorem dX4_tellsChord_5 : decode cX4_tellsChord 5 = .ok (.iconst (-1), 1) := by decide +kernel
theorem dX4_tellsChord_6 : decode cX4_tellsChord 6 = .ok (.ireturn, 1) := by decide +kernel
theorem dX4_tellsChord_7 : decode cX4_tellsChord 7 = .ok (.aload_n 0, 1) := by decide +kernel
theorem dX4_tellsChord_8 : decode cX4_tellsChord 8 = .ok (.iload_n 1, 1) := by decide +kernel
theorem dX4_tellsChord_9 : decode cX4_tellsChord 9 = .ok (.iload_n 2, 1) := by decide +kernel
theorem dX4_tellsChord_10 : decode cX4_tellsChord 10 = .ok (.invokevirtual 85, 3) := by decide +kernel
theorem dX4_tellsChord_13 : decode cX4_tellsChord 13 = .ok (.iload_n 3, 1) := by decide +kernel
theorem dX4_tellsChord_14 : decode cX4_tellsChord 14 = .ok (.ifCond .ne 12, 3) := by decide +kernel
theorem dX4_tellsChord_17 : decode cX4_tellsChord 17 = .ok (.aload_n 0, 1) := by decide +kernel
theorem dX4_tellsChord_18 : decode cX4_tellsChord 18 = .ok (.iload_n 1, 1) := by decide +kernel
theorem dX4_tellsChord_19 : decode cX4_tellsChord 19 = .ok (.iload_n 2, 1) := by decide +kernel
theorem dX4_tellsChord_20 : decode cX4_tellsChord 20 = .ok (.invokevirtual 95, 3) := by decide +kernel
theorem dX4_tellsChord_23 : decode cX4_tellsChord 23 = .ok (.goto 21, 3) := by decide +kernel
theorem dX4_tellsChord_26 : decode cX4_tellsChord 26 = .ok (.iload_n 3, 1) := by decide +kernel
theorem dX4_tellsChord_27 : decode cX4_tellsChord 27 = .ok (.iconst 1, 1) := by decide +kernel
theorem dX4_tellsChord_28 : decode cX4_tellsChord 28 = .ok (.if_icmp .ne 10, 3) := by decide +kernel
theorem dX4_tellsChord_31 : decode cX4_tellsChord 31 = .ok (.aload_n 0, 1) := by decide +kernel
theorem dX4_tellsChord_32 : decode cX4_tellsChord 32 = .ok (.getfield 68, 3) := by decide +kernel
theorem dX4_tellsChord_35 : decode cX4_tellsChord 35 = .ok (.goto 9, 3) := by decide +kernel
theorem dX4_tellsChord_38 : decode cX4_tellsChord 38 = .ok (.aload_n 0, 1) := by decide +kernel
theorem dX4_tellsChord_39 : decode cX4_tellsChord 39 = .ok (.iload_n 1, 1) := by decide +kernel
theorem dX4_tellsChord_40 : decode cX4_tellsChord 40 = .ok (.iload_n 2, 1) := by decide +kernel
theorem dX4_tellsChord_41 : decode cX4_tellsChord 41 = .ok (.invokevirtual 98, 3) := by decide +kernel
theorem dX4_tellsChord_44 : decode cX4_tellsChord 44 = .ok (.ireturn, 1) := by decide +kernel
theorem dX4_chord_0 : decode cX4_chord 0 = .ok (.aload_n 0, 1) := by decide +kernel
theorem dX4_chord_1 : decode cX4_chord 1 = .ok (.iconst 0, 1) := by decide +kernel
theorem dX4_chord_2 : decode cX4_chord 2 = .ok (.putfield 35, 3) := by decide +kernel
theorem dX4_chord_5 : decode cX4_chord 5 = .ok (.aload_n 0, 1) := by decide +kernel
theorem dX4_chord_6 : decode cX4_chord 6 = .ok (.iload_n 1, 1) := by decide +kernel
theorem dX4_chord_7 : decode cX4_chord 7 = .ok (.invokevirtual 134, 3) := by decide +kernel
theorem dX4_chord_10 : decode cX4_chord 10 = .ok (.ifCond .eq 11, 3) := by decide +kernel
theorem dX4_chord_13 : decode cX4_chord 13 = .ok (.aload_n 0, 1) := by decide +kernel
theorem dX4_chord_14 : decode cX4_chord 14 = .ok (.iload_n 2, 1) := by decide +kernel
theorem dX4_chord_15 : decode cX4_chord 15 = .ok (.invokevirtual 134, 3) := by decide +kernel
theorem dX4_chord_18 : decode cX4_chord 18 = .ok (.ifCond .ne 9, 3) := by decide +kernel
theorem dX4_chord_21 : decode cX4_chord 21 = .ok (.aload_n 0, 1) := by decide +kernel
theorem dX4_chord_22 : decode cX4_chord 22 = .ok (.iconst 1, 1) := by decide +kernel
theorem dX4_chord_23 : decode cX4_chord 23 = .ok (.invokevirtual 118, 3) := by decide +kernel
theorem dX4_chord_26 : decode cX4_chord 26 = .ok (.ireturn, 1) := by decide +kernel
theorem dX4_chord_27 : decode cX4_chord 27 = .ok (.iload_n 3, 1) := by decide +kernel
theorem dX4_chord_28 : decode cX4_chord 28 = .ok (.iconst 0, 1) := by decide +kernel
theorem dX4_chord_29 : decode cX4_chord 29 = .ok (.iconst 2, 1) := by decide +kernel
theorem dX4_chord_30 : decode cX4_chord 30 = .ok (.invokestatic 42, 3) := by decide +kernel
theorem dX4_chord_33 : decode cX4_chord 33 = .ok (.ifCond .eq 13, 3) := by decide +kernel
theorem dX4_chord_36 : decode cX4_chord 36 = .ok (.aload_n 0, 1) := by decide +kernel
theorem dX4_chord_37 : decode cX4_chord 37 = .ok (.iload_n 1, 1) := by decide +kernel
theorem dX4_chord_38 : decode cX4_chord 38 = .ok (.iload_n 2, 1) := by decide +kernel
theorem dX4_chord_39 : decode cX4_chord 39 = .ok (.iload_n 3, 1) := by decide +kernel
theorem dX4_chord_40 : decode cX4_chord 40 = .ok (.invokevirtual 199, 3) := by decide +kernel
theorem dX4_chord_43 : decode cX4_chord 43 = .ok (.goto 8, 3) := by decide +kernel
theorem dX4_chord_46 : decode cX4_chord 46 = .ok (.aload_n 0, 1) := by decide +kernel
theorem dX4_chord_47 : decode cX4_chord 47 = .ok (.iconst 2, 1) := by decide +kernel
theorem dX4_chord_48 : decode cX4_chord 48 = .ok (.invokevirtual 118, 3) := by decide +kernel
theorem dX4_chord_51 : decode cX4_chord 51 = .ok (.ireturn, 1) := by decide +kernel
theorem dX4_tellsWound_0 : decode cX4_tellsWound 0 = .ok (.iload_n 1, 1) := by decide +kernel
theorem dX4_tellsWound_1 : decode cX4_tellsWound 1 = .ok (.aload_n 0, 1) := by decide +kernel
theorem dX4_tellsWound_2 : decode cX4_tellsWound 2 = .ok (.getfield 7, 3) := by decide +kernel
theorem dX4_tellsWound_5 : decode cX4_tellsWound 5 = .ok (.bipush 15, 2) := by decide +kernel
theorem dX4_tellsWound_7 : decode cX4_tellsWound 7 = .ok (.iaload, 1) := by decide +kernel
theorem dX4_tellsWound_8 : decode cX4_tellsWound 8 = .ok (.if_icmp .ge 22, 3) := by decide +kernel
theorem dX4_tellsWound_11 : decode cX4_tellsWound 11 = .ok (.aload_n 0, 1) := by decide +kernel
theorem dX4_tellsWound_12 : decode cX4_tellsWound 12 = .ok (.aload_n 0, 1) := by decide +kernel
theorem dX4_tellsWound_13 : decode cX4_tellsWound 13 = .ok (.getfield 7, 3) := by decide +kernel
theorem dX4_tellsWound_16 : decode cX4_tellsWound 16 = .ok (.bipush 15, 2) := by decide +kernel
theorem dX4_tellsWound_18 : decode cX4_tellsWound 18 = .ok (.iaload, 1) := by decide +kernel
theorem dX4_tellsWound_19 : decode cX4_tellsWound 19 = .ok (.iconst 1, 1) := by decide +kernel
theorem dX4_tellsWound_20 : decode cX4_tellsWound 20 = .ok (.isub, 1) := by decide +kernel
theorem dX4_tellsWound_21 : decode cX4_tellsWound 21 = .ok (.iload_n 1, 1) := by decide +kernel
theorem dX4_tellsWound_22 : decode cX4_tellsWound 22 = .ok (.isub, 1) := by decide +kernel
theorem dX4_tellsWound_23 : decode cX4_tellsWound 23 = .ok (.iload_n 2, 1) := by decide +kernel
theorem dX4_tellsWound_24 : decode cX4_tellsWound 24 = .ok (.invokevirtual 78, 3) := by decide +kernel
theorem dX4_tellsWound_27 : decode cX4_tellsWound 27 = .ok (.goto 4, 3) := by decide +kernel
theorem dX4_tellsWound_30 : decode cX4_tellsWound 30 = .ok (.iconst (-1), 1) := by decide +kernel
theorem dX4_tellsWound_31 : decode cX4_tellsWound 31 = .ok (.ireturn, 1) := by decide +kernel
theorem dX4_wound_0 : decode cX4_wound 0 = .ok (.aload_n 0, 1) := by decide +kernel
theorem dX4_wound_1 : decode cX4_wound 1 = .ok (.iconst 0, 1) := by decide +kernel
theorem dX4_wound_2 : decode cX4_wound 2 = .ok (.putfield 35, 3) := by decide +kernel
theorem dX4_wound_5 : decode cX4_wound 5 = .ok (.iload_n 1, 1) := by decide +kernel
theorem dX4_wound_6 : decode cX4_wound 6 = .ok (.ifCond .lt 21, 3) := by decide +kernel
theorem dX4_wound_9 : decode cX4_wound 9 = .ok (.iload_n 2, 1) := by decide +kernel
theorem dX4_wound_10 : decode cX4_wound 10 = .ok (.iconst 0, 1) := by decide +kernel
theorem dX4_wound_11 : decode cX4_wound 11 = .ok (.iconst 2, 1) := by decide +kernel
theorem dX4_wound_12 : decode cX4_wound 12 = .ok (.invokestatic 42, 3) := by decide +kernel
theorem dX4_wound_15 : decode cX4_wound 15 = .ok (.ifCond .eq 12, 3) := by decide +kernel
theorem dX4_wound_18 : decode cX4_wound 18 = .ok (.aload_n 0, 1) := by decide +kernel
theorem dX4_wound_19 : decode cX4_wound 19 = .ok (.iload_n 1, 1) := by decide +kernel
theorem dX4_wound_20 : decode cX4_wound 20 = .ok (.iload_n 2, 1) := by decide +kernel
theorem dX4_wound_21 : decode cX4_wound 21 = .ok (.invokevirtual 202, 3) := by decide +kernel
theorem dX4_wound_24 : decode cX4_wound 24 = .ok (.goto 8, 3) := by decide +kernel
theorem dX4_wound_27 : decode cX4_wound 27 = .ok (.aload_n 0, 1) := by decide +kernel
theorem dX4_wound_28 : decode cX4_wound 28 = .ok (.iconst 1, 1) := by decide +kernel
theorem dX4_wound_29 : decode cX4_wound 29 = .ok (.invokevirtual 118, 3) := by decide +kernel
theorem dX4_wound_32 : decode cX4_wound 32 = .ok (.ireturn, 1) := by decide +kernel
theorem dX4_over_0 : decode cX4_over 0 = .ok (.iconst 0, 1) := by decide +kernel
theorem dX4_over_1 : decode cX4_over 1 = .ok (.istore_n 2, 1) := by decide +kernel
theorem dX4_over_2 : decode cX4_over 2 = .ok (.iconst 0, 1) := by decide +kernel
theorem dX4_over_3 : decode cX4_over 3 = .ok (.istore_n 3, 1) := by decide +kernel
theorem dX4_over_4 : decode cX4_over 4 = .ok (.iload_n 3, 1) := by decide +kernel
theorem dX4_over_5 : decode cX4_over 5 = .ok (.aload_n 0, 1) := by decide +kernel
theorem dX4_over_6 : decode cX4_over 6 = .ok (.getfield 7, 3) := by decide +kernel
theorem dX4_over_9 : decode cX4_over 9 = .ok (.bipush 15, 2) := by decide +kernel
theorem dX4_over_11 : decode cX4_over 11 = .ok (.iaload, 1) := by decide +kernel
theorem dX4_over_12 : decode cX4_over 12 = .ok (.if_icmp .ge 46, 3) := by decide +kernel
theorem dX4_over_15 : decode cX4_over 15 = .ok (.aload_n 0, 1) := by decide +kernel
theorem dX4_over_16 : decode cX4_over 16 = .ok (.aload_n 0, 1) := by decide +kernel
theorem dX4_over_17 : decode cX4_over 17 = .ok (.iload_n 3, 1) := by decide +kernel
theorem dX4_over_18 : decode cX4_over 18 = .ok (.iconst 0, 1) := by decide +kernel
theorem dX4_over_19 : decode cX4_over 19 = .ok (.invokevirtual 78, 3) := by decide +kernel
theorem dX4_over_22 : decode cX4_over 22 = .ok (.aload_n 0, 1) := by decide +kernel
theorem dX4_over_23 : decode cX4_over 23 = .ok (.iload_n 3, 1) := by decide +kernel
theorem dX4_over_24 : decode cX4_over 24 = .ok (.iconst 1, 1) := by decide +kernel
theorem dX4_over_25 : decode cX4_over 25 = .ok (.invokevirtual 78, 3) := by decide +kernel
theorem dX4_over_28 : decode cX4_over 28 = .ok (.invokevirtual 85, 3) := by decide +kernel
theorem dX4_over_31 : decode cX4_over 31 = .ok (.iload_n 2, 1) := by decide +kernel
theorem dX4_over_32 : decode cX4_over 32 = .ok (.aload_n 0, 1) := by decide +kernel
theorem dX4_over_33 : decode cX4_over 33 = .ok (.getfield 29, 3) := by decide +kernel
theorem dX4_over_36 : decode cX4_over 36 = .ok (.iload_n 1, 1) := by decide +kernel
theorem dX4_over_37 : decode cX4_over 37 = .ok (.iaload, 1) := by decide +kernel
theorem dX4_over_38 : decode cX4_over 38 = .ok (.aload_n 0, 1) := by decide +kernel
theorem dX4_over_39 : decode cX4_over 39 = .ok (.getfield 65, 3) := by decide +kernel
theorem dX4_over_42 : decode cX4_over 42 = .ok (.if_icmp .ne 7, 3) := by decide +kernel
theorem dX4_over_45 : decode cX4_over 45 = .ok (.iconst 1, 1) := by decide +kernel
theorem dX4_over_46 : decode cX4_over 46 = .ok (.goto 4, 3) := by decide +kernel
theorem dX4_over_49 : decode cX4_over 49 = .ok (.iconst 0, 1) := by decide +kernel
theorem dX4_over_50 : decode cX4_over 50 = .ok (.iadd, 1) := by decide +kernel
theorem dX4_over_51 : decode cX4_over 51 = .ok (.istore_n 2, 1) := by decide +kernel
theorem dX4_over_52 : decode cX4_over 52 = .ok (.iinc 3 1, 3) := by decide +kernel
theorem dX4_over_55 : decode cX4_over 55 = .ok (.goto (-51), 3) := by decide +kernel
theorem dX4_over_58 : decode cX4_over 58 = .ok (.iload_n 2, 1) := by decide +kernel
theorem dX4_over_59 : decode cX4_over 59 = .ok (.ireturn, 1) := by decide +kernel
theorem dX4_tellsSquare_0 : decode cX4_tellsSquare 0 = .ok (.iload_n 2, 1) := by decide +kernel
theorem dX4_tellsSquare_1 : decode cX4_tellsSquare 1 = .ok (.tableswitch 59 0 2 #[27, 38, 49], 27) := by decide +kernel
theorem dX4_tellsSquare_28 : decode cX4_tellsSquare 28 = .ok (.aload_n 0, 1) := by decide +kernel
theorem dX4_tellsSquare_29 : decode cX4_tellsSquare 29 = .ok (.getfield 7, 3) := by decide +kernel
theorem dX4_tellsSquare_32 : decode cX4_tellsSquare 32 = .ok (.sipush 616, 3) := by decide +kernel
theorem dX4_tellsSquare_35 : decode cX4_tellsSquare 35 = .ok (.iload_n 1, 1) := by decide +kernel
theorem dX4_tellsSquare_36 : decode cX4_tellsSquare 36 = .ok (.iadd, 1) := by decide +kernel
theorem dX4_tellsSquare_37 : decode cX4_tellsSquare 37 = .ok (.iaload, 1) := by decide +kernel
theorem dX4_tellsSquare_38 : decode cX4_tellsSquare 38 = .ok (.ireturn, 1) := by decide +kernel
theorem dX4_tellsSquare_39 : decode cX4_tellsSquare 39 = .ok (.aload_n 0, 1) := by decide +kernel
theorem dX4_tellsSquare_40 : decode cX4_tellsSquare 40 = .ok (.getfield 7, 3) := by decide +kernel
theorem dX4_tellsSquare_43 : decode cX4_tellsSquare 43 = .ok (.sipush 760, 3) := by decide +kernel
theorem dX4_tellsSquare_46 : decode cX4_tellsSquare 46 = .ok (.iload_n 1, 1) := by decide +kernel
theorem dX4_tellsSquare_47 : decode cX4_tellsSquare 47 = .ok (.iadd, 1) := by decide +kernel
theorem dX4_tellsSquare_48 : decode cX4_tellsSquare 48 = .ok (.iaload, 1) := by decide +kernel
theorem dX4_tellsSquare_49 : decode cX4_tellsSquare 49 = .ok (.ireturn, 1) := by decide +kernel
theorem dX4_tellsSquare_50 : decode cX4_tellsSquare 50 = .ok (.aload_n 0, 1) := by decide +kernel
theorem dX4_tellsSquare_51 : decode cX4_tellsSquare 51 = .ok (.iload_n 1, 1) := by decide +kernel
theorem dX4_tellsSquare_52 : decode cX4_tellsSquare 52 = .ok (.invokevirtual 104, 3) := by decide +kernel
theorem dX4_tellsSquare_55 : decode cX4_tellsSquare 55 = .ok (.sipush 10000, 3) := by decide +kernel
theorem dX4_tellsSquare_58 : decode cX4_tellsSquare 58 = .ok (.iadd, 1) := by decide +kernel
theorem dX4_tellsSquare_59 : decode cX4_tellsSquare 59 = .ok (.ireturn, 1) := by decide +kernel
theorem dX4_tellsSquare_60 : decode cX4_tellsSquare 60 = .ok (.aload_n 0, 1) := by decide +kernel
theorem dX4_tellsSquare_61 : decode cX4_tellsSquare 61 = .ok (.iload_n 1, 1) := by decide +kernel
theorem dX4_tellsSquare_62 : decode cX4_tellsSquare 62 = .ok (.invokevirtual 205, 3) := by decide +kernel
theorem dX4_tellsSquare_65 : decode cX4_tellsSquare 65 = .ok (.ireturn, 1) := by decide +kernel
theorem dX4_square_0 : decode cX4_square 0 = .ok (.aload_n 0, 1) := by decide +kernel
theorem dX4_square_1 : decode cX4_square 1 = .ok (.iconst 0, 1) := by decide +kernel
theorem dX4_square_2 : decode cX4_square 2 = .ok (.putfield 35, 3) := by decide +kernel
theorem dX4_square_5 : decode cX4_square 5 = .ok (.iload_n 1, 1) := by decide +kernel
theorem dX4_square_6 : decode cX4_square 6 = .ok (.iload_n 2, 1) := by decide +kernel
theorem dX4_square_7 : decode cX4_square 7 = .ok (.invokestatic 147, 3) := by decide +kernel
theorem dX4_square_10 : decode cX4_square 10 = .ok (.ifCond .ne 9, 3) := by decide +kernel
theorem dX4_square_13 : decode cX4_square 13 = .ok (.aload_n 0, 1) := by decide +kernel
theorem dX4_square_14 : decode cX4_square 14 = .ok (.iconst 1, 1) := by decide +kernel
theorem dX4_square_15 : decode cX4_square 15 = .ok (.invokevirtual 118, 3) := by decide +kernel
theorem dX4_square_18 : decode cX4_square 18 = .ok (.ireturn, 1) := by decide +kernel
theorem dX4_square_19 : decode cX4_square 19 = .ok (.iload_n 3, 1) := by decide +kernel
theorem dX4_square_20 : decode cX4_square 20 = .ok (.iconst 0, 1) := by decide +kernel
theorem dX4_square_21 : decode cX4_square 21 = .ok (.iconst 3, 1) := by decide +kernel
theorem dX4_square_22 : decode cX4_square 22 = .ok (.invokestatic 42, 3) := by decide +kernel
theorem dX4_square_25 : decode cX4_square 25 = .ok (.ifCond .eq 17, 3) := by decide +kernel
theorem dX4_square_28 : decode cX4_square 28 = .ok (.aload_n 0, 1) := by decide +kernel
theorem dX4_square_29 : decode cX4_square 29 = .ok (.bipush 12, 2) := by decide +kernel
theorem dX4_square_31 : decode cX4_square 31 = .ok (.iload_n 2, 1) := by decide +kernel
theorem dX4_square_32 : decode cX4_square 32 = .ok (.imul, 1) := by decide +kernel
theorem dX4_square_33 : decode cX4_square 33 = .ok (.iload_n 1, 1) := by decide +kernel
theorem dX4_square_34 : decode cX4_square 34 = .ok (.iadd, 1) := by decide +kernel
theorem dX4_square_35 : decode cX4_square 35 = .ok (.iload_n 3, 1) := by decide +kernel
theorem dX4_square_36 : decode cX4_square 36 = .ok (.invokevirtual 208, 3) := by decide +kernel
theorem dX4_square_39 : decode cX4_square 39 = .ok (.goto 8, 3) := by decide +kernel
theorem dX4_square_42 : decode cX4_square 42 = .ok (.aload_n 0, 1) := by decide +kernel
theorem dX4_square_43 : decode cX4_square 43 = .ok (.iconst 2, 1) := by decide +kernel
theorem dX4_square_44 : decode cX4_square 44 = .ok (.invokevirtual 118, 3) := by decide +kernel
theorem dX4_square_47 : decode cX4_square 47 = .ok (.ireturn, 1) := by decide +kernel
theorem dX4_squaresThat_0 : decode cX4_squaresThat 0 = .ok (.iconst 0, 1) := by decide +kernel
theorem dX4_squaresThat_1 : decode cX4_squaresThat 1 = .ok (.istore_n 2, 1) := by decide +kernel
theorem dX4_squaresThat_2 : decode cX4_squaresThat 2 = .ok (.iconst 0, 1) := by decide +kernel
theorem dX4_squaresThat_3 : decode cX4_squaresThat 3 = .ok (.istore_n 3, 1) := by decide +kernel
theorem dX4_squaresThat_4 : decode cX4_squaresThat 4 = .ok (.iload_n 3, 1) := by decide +kernel
theorem dX4_squaresThat_5 : decode cX4_squaresThat 5 = .ok (.sipush 144, 3) := by decide +kernel
theorem dX4_squaresThat_8 : decode cX4_squaresThat 8 = .ok (.if_icmp .ge 50, 3) := by decide +kernel
theorem dX4_squaresThat_11 : decode cX4_squaresThat 11 = .ok (.aload_n 0, 1) := by decide +kernel
theorem dX4_squaresThat_12 : decode cX4_squaresThat 12 = .ok (.iload_n 3, 1) := by decide +kernel
theorem dX4_squaresThat_13 : decode cX4_squaresThat 13 = .ok (.invokevirtual 104, 3) := by decide +kernel
theorem dX4_squaresThat_16 : decode cX4_squaresThat 16 = .ok (.ifCond .le 7, 3) := by decide +kernel
theorem dX4_squaresThat_19 : decode cX4_squaresThat 19 = .ok (.iconst 1, 1) := by decide +kernel
theorem dX4_squaresThat_20 : decode cX4_squaresThat 20 = .ok (.goto 16, 3) := by decide +kernel
theorem dX4_squaresThat_23 : decode cX4_squaresThat 23 = .ok (.aload_n 0, 1) := by decide +kernel
theorem dX4_squaresThat_24 : decode cX4_squaresThat 24 = .ok (.iload_n 3, 1) := by decide +kernel
theorem dX4_squaresThat_25 : decode cX4_squaresThat 25 = .ok (.invokevirtual 104, 3) := by decide +kernel
theorem dX4_squaresThat_28 : decode cX4_squaresThat 28 = .ok (.ifCond .ge 7, 3) := by decide +kernel
theorem dX4_squaresThat_31 : decode cX4_squaresThat 31 = .ok (.iconst (-1), 1) := by decide +kernel
theorem dX4_squaresThat_32 : decode cX4_squaresThat 32 = .ok (.goto 4, 3) := by decide +kernel
theorem dX4_squaresThat_35 : decode cX4_squaresThat 35 = .ok (.iconst 0, 1) := by decide +kernel
theorem dX4_squaresThat_36 : decode cX4_squaresThat 36 = .ok (.istore 4, 2) := by decide +kernel
theorem dX4_squaresThat_38 : decode cX4_squaresThat 38 = .ok (.iload_n 2, 1) := by decide +kernel
theorem dX4_squaresThat_39 : decode cX4_squaresThat 39 = .ok (.iload 4, 2) := by decide +kernel
theorem dX4_squaresThat_41 : decode cX4_squaresThat 41 = .ok (.iload_n 1, 1) := by decide +kernel
theorem dX4_squaresThat_42 : decode cX4_squaresThat 42 = .ok (.if_icmp .ne 7, 3) := by decide +kernel
theorem dX4_squaresThat_45 : decode cX4_squaresThat 45 = .ok (.iconst 1, 1) := by decide +kernel
theorem dX4_squaresThat_46 : decode cX4_squaresThat 46 = .ok (.goto 4, 3) := by decide +kernel
theorem dX4_squaresThat_49 : decode cX4_squaresThat 49 = .ok (.iconst 0, 1) := by decide +kernel
theorem dX4_squaresThat_50 : decode cX4_squaresThat 50 = .ok (.iadd, 1) := by decide +kernel
theorem dX4_squaresThat_51 : decode cX4_squaresThat 51 = .ok (.istore_n 2, 1) := by decide +kernel
theorem dX4_squaresThat_52 : decode cX4_squaresThat 52 = .ok (.iinc 3 1, 3) := by decide +kernel
theorem dX4_squaresThat_55 : decode cX4_squaresThat 55 = .ok (.goto (-51), 3) := by decide +kernel
theorem dX4_squaresThat_58 : decode cX4_squaresThat 58 = .ok (.iload_n 2, 1) := by decide +kernel
theorem dX4_squaresThat_59 : decode cX4_squaresThat 59 = .ok (.ireturn, 1) := by decide +kernel
theorem dX4_tellsCount_0 : decode cX4_tellsCount 0 = .ok (.iload_n 1, 1) := by decide +kernel
theorem dX4_tellsCount_1 : decode cX4_tellsCount 1 = .ok (.tableswitch 122 0 11 #[63, 63, 63, 70, 78, 78, 78, 87, 87, 92, 98, 104], 63) := by decide +kernel
theorem dX4_tellsCount_64 : decode cX4_tellsCount 64 = .ok (.aload_n 0, 1) := by decide +kernel
theorem dX4_tellsCount_65 : decode cX4_tellsCount 65 = .ok (.getfield 7, 3) := by decide +kernel
theorem dX4_tellsCount_68 : decode cX4_tellsCount 68 = .ok (.iload_n 1, 1) := by decide +kernel
theorem dX4_tellsCount_69 : decode cX4_tellsCount 69 = .ok (.iaload, 1) := by decide +kernel
theorem dX4_tellsCount_70 : decode cX4_tellsCount 70 = .ok (.ireturn, 1) := by decide +kernel
theorem dX4_tellsCount_71 : decode cX4_tellsCount 71 = .ok (.aload_n 0, 1) := by decide +kernel
theorem dX4_tellsCount_72 : decode cX4_tellsCount 72 = .ok (.getfield 7, 3) := by decide +kernel
theorem dX4_tellsCount_75 : decode cX4_tellsCount 75 = .ok (.bipush 15, 2) := by decide +kernel
theorem dX4_tellsCount_77 : decode cX4_tellsCount 77 = .ok (.iaload, 1) := by decide +kernel
theorem dX4_tellsCount_78 : decode cX4_tellsCount 78 = .ok (.ireturn, 1) := by decide +kernel
theorem dX4_tellsCount_79 : decode cX4_tellsCount 79 = .ok (.aload_n 0, 1) := by decide +kernel
theorem dX4_tellsCount_80 : decode cX4_tellsCount 80 = .ok (.getfield 7, 3) := by decide +kernel
theorem dX4_tellsCount_83 : decode cX4_tellsCount 83 = .ok (.iload_n 1, 1) := by decide +kernel
theorem dX4_tellsCount_84 : decode cX4_tellsCount 84 = .ok (.iconst 1, 1) := by decide +kernel
theorem dX4_tellsCount_85 : decode cX4_tellsCount 85 = .ok (.isub, 1) := by decide +kernel
theorem dX4_tellsCount_86 : decode cX4_tellsCount 86 = .ok (.iaload, 1) := by decide +kernel
theorem dX4_tellsCount_87 : decode cX4_tellsCount 87 = .ok (.ireturn, 1) := by decide +kernel
theorem dX4_tellsCount_88 : decode cX4_tellsCount 88 = .ok (.aload_n 0, 1) := by decide +kernel
theorem dX4_tellsCount_89 : decode cX4_tellsCount 89 = .ok (.invokevirtual 156, 3) := by decide +kernel
theorem dX4_tellsCount_92 : decode cX4_tellsCount 92 = .ok (.ireturn, 1) := by decide +kernel
theorem dX4_tellsCount_93 : decode cX4_tellsCount 93 = .ok (.aload_n 0, 1) := by decide +kernel
theorem dX4_tellsCount_94 : decode cX4_tellsCount 94 = .ok (.iconst 1, 1) := by decide +kernel
theorem dX4_tellsCount_95 : decode cX4_tellsCount 95 = .ok (.invokevirtual 211, 3) := by decide +kernel
theorem dX4_tellsCount_98 : decode cX4_tellsCount 98 = .ok (.ireturn, 1) := by decide +kernel
theorem dX4_tellsCount_99 : decode cX4_tellsCount 99 = .ok (.aload_n 0, 1) := by decide +kernel
theorem dX4_tellsCount_100 : decode cX4_tellsCount 100 = .ok (.iconst (-1), 1) := by decide +kernel
theorem dX4_tellsCount_101 : decode cX4_tellsCount 101 = .ok (.invokevirtual 211, 3) := by decide +kernel
theorem dX4_tellsCount_104 : decode cX4_tellsCount 104 = .ok (.ireturn, 1) := by decide +kernel
theorem dX4_tellsCount_105 : decode cX4_tellsCount 105 = .ok (.aload_n 0, 1) := by decide +kernel
theorem dX4_tellsCount_106 : decode cX4_tellsCount 106 = .ok (.iconst 0, 1) := by decide +kernel
theorem dX4_tellsCount_107 : decode cX4_tellsCount 107 = .ok (.invokevirtual 193, 3) := by decide +kernel
theorem dX4_tellsCount_110 : decode cX4_tellsCount 110 = .ok (.aload_n 0, 1) := by decide +kernel
theorem dX4_tellsCount_111 : decode cX4_tellsCount 111 = .ok (.iconst 1, 1) := by decide +kernel
theorem dX4_tellsCount_112 : decode cX4_tellsCount 112 = .ok (.invokevirtual 193, 3) := by decide +kernel
theorem dX4_tellsCount_115 : decode cX4_tellsCount 115 = .ok (.iadd, 1) := by decide +kernel
theorem dX4_tellsCount_116 : decode cX4_tellsCount 116 = .ok (.aload_n 0, 1) := by decide +kernel
theorem dX4_tellsCount_117 : decode cX4_tellsCount 117 = .ok (.iconst 2, 1) := by decide +kernel
theorem dX4_tellsCount_118 : decode cX4_tellsCount 118 = .ok (.invokevirtual 193, 3) := by decide +kernel
theorem dX4_tellsCount_121 : decode cX4_tellsCount 121 = .ok (.iadd, 1) := by decide +kernel
theorem dX4_tellsCount_122 : decode cX4_tellsCount 122 = .ok (.ireturn, 1) := by decide +kernel
theorem dX4_tellsCount_123 : decode cX4_tellsCount 123 = .ok (.aload_n 0, 1) := by decide +kernel
theorem dX4_tellsCount_124 : decode cX4_tellsCount 124 = .ok (.getfield 39, 3) := by decide +kernel
theorem dX4_tellsCount_127 : decode cX4_tellsCount 127 = .ok (.ireturn, 1) := by decide +kernel
theorem dX4_count_0 : decode cX4_count 0 = .ok (.aload_n 0, 1) := by decide +kernel
theorem dX4_count_1 : decode cX4_count 1 = .ok (.iconst 0, 1) := by decide +kernel
theorem dX4_count_2 : decode cX4_count 2 = .ok (.putfield 35, 3) := by decide +kernel
theorem dX4_count_5 : decode cX4_count 5 = .ok (.iload_n 1, 1) := by decide +kernel
theorem dX4_count_6 : decode cX4_count 6 = .ok (.iconst 0, 1) := by decide +kernel
theorem dX4_count_7 : decode cX4_count 7 = .ok (.bipush 12, 2) := by decide +kernel
theorem dX4_count_9 : decode cX4_count 9 = .ok (.invokestatic 42, 3) := by decide +kernel
theorem dX4_count_12 : decode cX4_count 12 = .ok (.ifCond .eq 11, 3) := by decide +kernel
theorem dX4_count_15 : decode cX4_count 15 = .ok (.aload_n 0, 1) := by decide +kernel
theorem dX4_count_16 : decode cX4_count 16 = .ok (.iload_n 1, 1) := by decide +kernel
theorem dX4_count_17 : decode cX4_count 17 = .ok (.invokevirtual 214, 3) := by decide +kernel
theorem dX4_count_20 : decode cX4_count 20 = .ok (.goto 8, 3) := by decide +kernel
theorem dX4_count_23 : decode cX4_count 23 = .ok (.aload_n 0, 1) := by decide +kernel
theorem dX4_count_24 : decode cX4_count 24 = .ok (.iconst 1, 1) := by decide +kernel
theorem dX4_count_25 : decode cX4_count 25 = .ok (.invokevirtual 118, 3) := by decide +kernel
theorem dX4_count_28 : decode cX4_count 28 = .ok (.ireturn, 1) := by decide +kernel
theorem dX4_setting_0 : decode cX4_setting 0 = .ok (.aload_n 0, 1) := by decide +kernel
theorem dX4_setting_1 : decode cX4_setting 1 = .ok (.iconst 0, 1) := by decide +kernel
theorem dX4_setting_2 : decode cX4_setting 2 = .ok (.putfield 35, 3) := by decide +kernel
theorem dX4_setting_5 : decode cX4_setting 5 = .ok (.iload_n 1, 1) := by decide +kernel
theorem dX4_setting_6 : decode cX4_setting 6 = .ok (.iconst 0, 1) := by decide +kernel
theorem dX4_setting_7 : decode cX4_setting 7 = .ok (.iconst 2, 1) := by decide +kernel
theorem dX4_setting_8 : decode cX4_setting 8 = .ok (.invokestatic 42, 3) := by decide +kernel
theorem dX4_setting_11 : decode cX4_setting 11 = .ok (.ifCond .eq 15, 3) := by decide +kernel
theorem dX4_setting_14 : decode cX4_setting 14 = .ok (.aload_n 0, 1) := by decide +kernel
theorem dX4_setting_15 : decode cX4_setting 15 = .ok (.getfield 7, 3) := by decide +kernel
theorem dX4_setting_18 : decode cX4_setting 18 = .ok (.bipush 6, 2) := by decide +kernel
theorem dX4_setting_20 : decode cX4_setting 20 = .ok (.iload_n 1, 1) := by decide +kernel
theorem dX4_setting_21 : decode cX4_setting 21 = .ok (.iadd, 1) := by decide +kernel
theorem dX4_setting_22 : decode cX4_setting 22 = .ok (.iaload, 1) := by decide +kernel
theorem dX4_setting_23 : decode cX4_setting 23 = .ok (.goto 8, 3) := by decide +kernel
theorem dX4_setting_26 : decode cX4_setting 26 = .ok (.aload_n 0, 1) := by decide +kernel
theorem dX4_setting_27 : decode cX4_setting 27 = .ok (.iconst 1, 1) := by decide +kernel
theorem dX4_setting_28 : decode cX4_setting 28 = .ok (.invokevirtual 118, 3) := by decide +kernel
theorem dX4_setting_31 : decode cX4_setting 31 = .ok (.ireturn, 1) := by decide +kernel
theorem dX4_whyNot_0 : decode cX4_whyNot 0 = .ok (.aload_n 0, 1) := by decide +kernel
theorem dX4_whyNot_1 : decode cX4_whyNot 1 = .ok (.iconst 0, 1) := by decide +kernel
theorem dX4_whyNot_2 : decode cX4_whyNot 2 = .ok (.putfield 35, 3) := by decide +kernel
theorem dX4_whyNot_5 : decode cX4_whyNot 5 = .ok (.aload_n 0, 1) := by decide +kernel
theorem dX4_whyNot_6 : decode cX4_whyNot 6 = .ok (.iload_n 1, 1) := by decide +kernel
theorem dX4_whyNot_7 : decode cX4_whyNot 7 = .ok (.invokevirtual 134, 3) := by decide +kernel
theorem dX4_whyNot_10 : decode cX4_whyNot 10 = .ok (.ifCond .eq 23, 3) := by decide +kernel
theorem dX4_whyNot_13 : decode cX4_whyNot 13 = .ok (.aload_n 0, 1) := by decide +kernel
theorem dX4_whyNot_14 : decode cX4_whyNot 14 = .ok (.aload_n 0, 1) := by decide +kernel
theorem dX4_whyNot_15 : decode cX4_whyNot 15 = .ok (.getfield 7, 3) := by decide +kernel
theorem dX4_whyNot_18 : decode cX4_whyNot 18 = .ok (.iconst 1, 1) := by decide +kernel
theorem dX4_whyNot_19 : decode cX4_whyNot 19 = .ok (.iaload, 1) := by decide +kernel
theorem dX4_whyNot_20 : decode cX4_whyNot 20 = .ok (.iload_n 1, 1) := by decide +kernel
theorem dX4_whyNot_21 : decode cX4_whyNot 21 = .ok (.aload_n 0, 1) := by decide +kernel
theorem dX4_whyNot_22 : decode cX4_whyNot 22 = .ok (.getfield 7, 3) := by decide +kernel
theorem dX4_whyNot_25 : decode cX4_whyNot 25 = .ok (.iconst 2, 1) := by decide +kernel
theorem dX4_whyNot_26 : decode cX4_whyNot 26 = .ok (.iaload, 1) := by decide +kernel
theorem dX4_whyNot_27 : decode cX4_whyNot 27 = .ok (.invokevirtual 107, 3) := by decide +kernel
theorem dX4_whyNot_30 : decode cX4_whyNot 30 = .ok (.goto 8, 3) := by decide +kernel
theorem dX4_whyNot_33 : decode cX4_whyNot 33 = .ok (.aload_n 0, 1) := by decide +kernel
theorem dX4_whyNot_34 : decode cX4_whyNot 34 = .ok (.iconst 1, 1) := by decide +kernel
theorem dX4_whyNot_35 : decode cX4_whyNot 35 = .ok (.invokevirtual 118, 3) := by decide +kernel
theorem dX4_whyNot_38 : decode cX4_whyNot 38 = .ok (.ireturn, 1) := by decide +kernel
theorem dX4_tellsGain_0 : decode cX4_tellsGain 0 = .ok (.iload_n 1, 1) := by decide +kernel
theorem dX4_tellsGain_1 : decode cX4_tellsGain 1 = .ok (.aload_n 0, 1) := by decide +kernel
theorem dX4_tellsGain_2 : decode cX4_tellsGain 2 = .ok (.getfield 7, 3) := by decide +kernel
theorem dX4_tellsGain_5 : decode cX4_tellsGain 5 = .ok (.iconst 1, 1) := by decide +kernel
theorem dX4_tellsGain_6 : decode cX4_tellsGain 6 = .ok (.iaload, 1) := by decide +kernel
theorem dX4_tellsGain_7 : decode cX4_tellsGain 7 = .ok (.if_icmp .ne 7, 3) := by decide +kernel
theorem dX4_tellsGain_10 : decode cX4_tellsGain 10 = .ok (.iconst (-1), 1) := by decide +kernel
theorem dX4_tellsGain_11 : decode cX4_tellsGain 11 = .ok (.goto 28, 3) := by decide +kernel
theorem dX4_tellsGain_14 : decode cX4_tellsGain 14 = .ok (.aload_n 0, 1) := by decide +kernel
theorem dX4_tellsGain_15 : decode cX4_tellsGain 15 = .ok (.aload_n 0, 1) := by decide +kernel
theorem dX4_tellsGain_16 : decode cX4_tellsGain 16 = .ok (.getfield 7, 3) := by decide +kernel
theorem dX4_tellsGain_19 : decode cX4_tellsGain 19 = .ok (.iconst 1, 1) := by decide +kernel
theorem dX4_tellsGain_20 : decode cX4_tellsGain 20 = .ok (.iaload, 1) := by decide +kernel
theorem dX4_tellsGain_21 : decode cX4_tellsGain 21 = .ok (.iload_n 1, 1) := by decide +kernel
theorem dX4_tellsGain_22 : decode cX4_tellsGain 22 = .ok (.aload_n 0, 1) := by decide +kernel
theorem dX4_tellsGain_23 : decode cX4_tellsGain 23 = .ok (.aload_n 0, 1) := by decide +kernel
theorem dX4_tellsGain_24 : decode cX4_tellsGain 24 = .ok (.getfield 7, 3) := by decide +kernel
theorem dX4_tellsGain_27 : decode cX4_tellsGain 27 = .ok (.iconst 2, 1) := by decide +kernel
theorem dX4_tellsGain_28 : decode cX4_tellsGain 28 = .ok (.iaload, 1) := by decide +kernel
theorem dX4_tellsGain_29 : decode cX4_tellsGain 29 = .ok (.invokevirtual 88, 3) := by decide +kernel
theorem dX4_tellsGain_32 : decode cX4_tellsGain 32 = .ok (.invokevirtual 111, 3) := by decide +kernel
theorem dX4_tellsGain_35 : decode cX4_tellsGain 35 = .ok (.sipush 10000, 3) := by decide +kernel
theorem dX4_tellsGain_38 : decode cX4_tellsGain 38 = .ok (.iadd, 1) := by decide +kernel
theorem dX4_tellsGain_39 : decode cX4_tellsGain 39 = .ok (.ireturn, 1) := by decide +kernel
theorem dX4_gain_0 : decode cX4_gain 0 = .ok (.aload_n 0, 1) := by decide +kernel
theorem dX4_gain_1 : decode cX4_gain 1 = .ok (.iconst 0, 1) := by decide +kernel
theorem dX4_gain_2 : decode cX4_gain 2 = .ok (.putfield 35, 3) := by decide +kernel
theorem dX4_gain_5 : decode cX4_gain 5 = .ok (.aload_n 0, 1) := by decide +kernel
theorem dX4_gain_6 : decode cX4_gain 6 = .ok (.iload_n 1, 1) := by decide +kernel
theorem dX4_gain_7 : decode cX4_gain 7 = .ok (.invokevirtual 134, 3) := by decide +kernel
theorem dX4_gain_10 : decode cX4_gain 10 = .ok (.ifCond .eq 11, 3) := by decide +kernel
theorem dX4_gain_13 : decode cX4_gain 13 = .ok (.aload_n 0, 1) := by decide +kernel
theorem dX4_gain_14 : decode cX4_gain 14 = .ok (.iload_n 1, 1) := by decide +kernel
theorem dX4_gain_15 : decode cX4_gain 15 = .ok (.invokevirtual 217, 3) := by decide +kernel
theorem dX4_gain_18 : decode cX4_gain 18 = .ok (.goto 8, 3) := by decide +kernel
theorem dX4_gain_21 : decode cX4_gain 21 = .ok (.aload_n 0, 1) := by decide +kernel
theorem dX4_gain_22 : decode cX4_gain 22 = .ok (.iconst 1, 1) := by decide +kernel
theorem dX4_gain_23 : decode cX4_gain 23 = .ok (.invokevirtual 118, 3) := by decide +kernel
theorem dX4_gain_26 : decode cX4_gain 26 = .ok (.ireturn, 1) := by decide +kernel
theorem dX4_best_0 : decode cX4_best 0 = .ok (.aload_n 0, 1) := by decide +kernel
theorem dX4_best_1 : decode cX4_best 1 = .ok (.iconst 0, 1) := by decide +kernel
theorem dX4_best_2 : decode cX4_best 2 = .ok (.putfield 35, 3) := by decide +kernel
theorem dX4_best_5 : decode cX4_best 5 = .ok (.aload_n 0, 1) := by decide +kernel
theorem dX4_best_6 : decode cX4_best 6 = .ok (.aload_n 0, 1) := by decide +kernel
theorem dX4_best_7 : decode cX4_best 7 = .ok (.getfield 7, 3) := by decide +kernel
theorem dX4_best_10 : decode cX4_best 10 = .ok (.iconst 2, 1) := by decide +kernel
theorem dX4_best_11 : decode cX4_best 11 = .ok (.iaload, 1) := by decide +kernel
theorem dX4_best_12 : decode cX4_best 12 = .ok (.invokevirtual 141, 3) := by decide +kernel
theorem dX4_best_15 : decode cX4_best 15 = .ok (.ireturn, 1) := by decide +kernel
theorem dX4_isSecondRefused_0 : decode cX4_isSecondRefused 0 = .ok (.aload_n 0, 1) := by decide +kernel
theorem dX4_isSecondRefused_1 : decode cX4_isSecondRefused 1 = .ok (.getfield 7, 3) := by decide +kernel
theorem dX4_isSecondRefused_4 : decode cX4_isSecondRefused 4 = .ok (.iconst 2, 1) := by decide +kernel
theorem dX4_isSecondRefused_5 : decode cX4_isSecondRefused 5 = .ok (.iaload, 1) := by decide +kernel
theorem dX4_isSecondRefused_6 : decode cX4_isSecondRefused 6 = .ok (.istore_n 3, 1) := by decide +kernel
theorem dX4_isSecondRefused_7 : decode cX4_isSecondRefused 7 = .ok (.aload_n 0, 1) := by decide +kernel
theorem dX4_isSecondRefused_8 : decode cX4_isSecondRefused 8 = .ok (.aload_n 0, 1) := by decide +kernel
theorem dX4_isSecondRefused_9 : decode cX4_isSecondRefused 9 = .ok (.getfield 7, 3) := by decide +kernel
theorem dX4_isSecondRefused_12 : decode cX4_isSecondRefused 12 = .ok (.iconst 1, 1) := by decide +kernel
theorem dX4_isSecondRefused_13 : decode cX4_isSecondRefused 13 = .ok (.iaload, 1) := by decide +kernel
theorem dX4_isSecondRefused_14 : decode cX4_isSecondRefused 14 = .ok (.iload_n 1, 1) := by decide +kernel
theorem dX4_isSecondRefused_15 : decode cX4_isSecondRefused 15 = .ok (.invokevirtual 95, 3) := by decide +kernel
theorem dX4_isSecondRefused_18 : decode cX4_isSecondRefused 18 = .ok (.istore 4, 2) := by decide +kernel
theorem dX4_isSecondRefused_20 : decode cX4_isSecondRefused 20 = .ok (.iload_n 2, 1) := by decide +kernel
theorem dX4_isSecondRefused_21 : decode cX4_isSecondRefused 21 = .ok (.aload_n 0, 1) := by decide +kernel
theorem dX4_isSecondRefused_22 : decode cX4_isSecondRefused 22 = .ok (.getfield 7, 3) := by decide +kernel
theorem dX4_isSecondRefused_25 : decode cX4_isSecondRefused 25 = .ok (.iconst 1, 1) := by decide +kernel
theorem dX4_isSecondRefused_26 : decode cX4_isSecondRefused 26 = .ok (.iaload, 1) := by decide +kernel
theorem dX4_isSecondRefused_27 : decode cX4_isSecondRefused 27 = .ok (.if_icmp .ne 7, 3) := by decide +kernel
theorem dX4_isSecondRefused_30 : decode cX4_isSecondRefused 30 = .ok (.iconst 1, 1) := by decide +kernel
theorem dX4_isSecondRefused_31 : decode cX4_isSecondRefused 31 = .ok (.goto 4, 3) := by decide +kernel
theorem dX4_isSecondRefused_34 : decode cX4_isSecondRefused 34 = .ok (.iconst 0, 1) := by decide +kernel
theorem dX4_isSecondRefused_35 : decode cX4_isSecondRefused 35 = .ok (.istore 5, 2) := by decide +kernel
theorem dX4_isSecondRefused_37 : decode cX4_isSecondRefused 37 = .ok (.aload_n 0, 1) := by decide +kernel
theorem dX4_isSecondRefused_38 : decode cX4_isSecondRefused 38 = .ok (.getfield 7, 3) := by decide +kernel
theorem dX4_isSecondRefused_41 : decode cX4_isSecondRefused 41 = .ok (.bipush 9, 2) := by decide +kernel
theorem dX4_isSecondRefused_43 : decode cX4_isSecondRefused 43 = .ok (.iconst 2, 1) := by decide +kernel
theorem dX4_isSecondRefused_44 : decode cX4_isSecondRefused 44 = .ok (.iload_n 3, 1) := by decide +kernel
theorem dX4_isSecondRefused_45 : decode cX4_isSecondRefused 45 = .ok (.imul, 1) := by decide +kernel
theorem dX4_isSecondRefused_46 : decode cX4_isSecondRefused 46 = .ok (.iadd, 1) := by decide +kernel
theorem dX4_isSecondRefused_47 : decode cX4_isSecondRefused 47 = .ok (.iconst 1, 1) := by decide +kernel
theorem dX4_isSecondRefused_48 : decode cX4_isSecondRefused 48 = .ok (.iadd, 1) := by decide +kernel
theorem dX4_isSecondRefused_49 : decode cX4_isSecondRefused 49 = .ok (.dup2, 1) := by decide +kernel
theorem dX4_isSecondRefused_50 : decode cX4_isSecondRefused 50 = .ok (.iaload, 1) := by decide +kernel
theorem dX4_isSecondRefused_51 : decode cX4_isSecondRefused 51 = .ok (.iload 4, 2) := by decide +kernel
theorem dX4_isSecondRefused_53 : decode cX4_isSecondRefused 53 = .ok (.isub, 1) := by decide +kernel
theorem dX4_isSecondRefused_54 : decode cX4_isSecondRefused 54 = .ok (.iastore, 1) := by decide +kernel
theorem dX4_isSecondRefused_55 : decode cX4_isSecondRefused 55 = .ok (.aload_n 0, 1) := by decide +kernel
theorem dX4_isSecondRefused_56 : decode cX4_isSecondRefused 56 = .ok (.iload_n 1, 1) := by decide +kernel
theorem dX4_isSecondRefused_57 : decode cX4_isSecondRefused 57 = .ok (.iload_n 2, 1) := by decide +kernel
theorem dX4_isSecondRefused_58 : decode cX4_isSecondRefused 58 = .ok (.iload_n 3, 1) := by decide +kernel
theorem dX4_isSecondRefused_59 : decode cX4_isSecondRefused 59 = .ok (.invokevirtual 107, 3) := by decide +kernel
theorem dX4_isSecondRefused_62 : decode cX4_isSecondRefused 62 = .ok (.istore 6, 2) := by decide +kernel
theorem dX4_isSecondRefused_64 : decode cX4_isSecondRefused 64 = .ok (.aload_n 0, 1) := by decide +kernel
theorem dX4_isSecondRefused_65 : decode cX4_isSecondRefused 65 = .ok (.getfield 7, 3) := by decide +kernel
theorem dX4_isSecondRefused_68 : decode cX4_isSecondRefused 68 = .ok (.bipush 9, 2) := by decide +kernel
theorem dX4_isSecondRefused_70 : decode cX4_isSecondRefused 70 = .ok (.iconst 2, 1) := by decide +kernel
theorem dX4_isSecondRefused_71 : decode cX4_isSecondRefused 71 = .ok (.iload_n 3, 1) := by decide +kernel
theorem dX4_isSecondRefused_72 : decode cX4_isSecondRefused 72 = .ok (.imul, 1) := by decide +kernel
theorem dX4_isSecondRefused_73 : decode cX4_isSecondRefused 73 = .ok (.iadd, 1) := by decide +kernel
theorem dX4_isSecondRefused_74 : decode cX4_isSecondRefused 74 = .ok (.iconst 1, 1) := by decide +kernel
theorem dX4_isSecondRefused_75 : decode cX4_isSecondRefused 75 = .ok (.iadd, 1) := by decide +kernel
theorem dX4_isSecondRefused_76 : decode cX4_isSecondRefused 76 = .ok (.dup2, 1) := by decide +kernel
theorem dX4_isSecondRefused_77 : decode cX4_isSecondRefused 77 = .ok (.iaload, 1) := by decide +kernel
theorem dX4_isSecondRefused_78 : decode cX4_isSecondRefused 78 = .ok (.iload 4, 2) := by decide +kernel
theorem dX4_isSecondRefused_80 : decode cX4_isSecondRefused 80 = .ok (.iadd, 1) := by decide +kernel
theorem dX4_isSecondRefused_81 : decode cX4_isSecondRefused 81 = .ok (.iastore, 1) := by decide +kernel
theorem dX4_isSecondRefused_82 : decode cX4_isSecondRefused 82 = .ok (.iload 6, 2) := by decide +kernel
theorem dX4_isSecondRefused_84 : decode cX4_isSecondRefused 84 = .ok (.ifCond .ne 31, 3) := by decide +kernel
theorem dX4_isSecondRefused_87 : decode cX4_isSecondRefused 87 = .ok (.iload 5, 2) := by decide +kernel
theorem dX4_isSecondRefused_89 : decode cX4_isSecondRefused 89 = .ok (.ifCond .eq 30, 3) := by decide +kernel
theorem dX4_isSecondRefused_92 : decode cX4_isSecondRefused 92 = .ok (.aload_n 0, 1) := by decide +kernel
theorem dX4_isSecondRefused_93 : decode cX4_isSecondRefused 93 = .ok (.aload_n 0, 1) := by decide +kernel
theorem dX4_isSecondRefused_94 : decode cX4_isSecondRefused 94 = .ok (.getfield 7, 3) := by decide +kernel
theorem dX4_isSecondRefused_97 : decode cX4_isSecondRefused 97 = .ok (.iconst 1, 1) := by decide +kernel
theorem dX4_isSecondRefused_98 : decode cX4_isSecondRefused 98 = .ok (.iaload, 1) := by decide +kernel
theorem dX4_isSecondRefused_99 : decode cX4_isSecondRefused 99 = .ok (.iload_n 1, 1) := by decide +kernel
theorem dX4_isSecondRefused_100 : decode cX4_isSecondRefused 100 = .ok (.invokevirtual 98, 3) := by decide +kernel
theorem dX4_isSecondRefused_103 : decode cX4_isSecondRefused 103 = .ok (.iconst 1, 1) := by decide +kernel
theorem dX4_isSecondRefused_104 : decode cX4_isSecondRefused 104 = .ok (.iadd, 1) := by decide +kernel
theorem dX4_isSecondRefused_105 : decode cX4_isSecondRefused 105 = .ok (.aload_n 0, 1) := by decide +kernel
theorem dX4_isSecondRefused_106 : decode cX4_isSecondRefused 106 = .ok (.getfield 7, 3) := by decide +kernel
theorem dX4_isSecondRefused_109 : decode cX4_isSecondRefused 109 = .ok (.bipush 7, 2) := by decide +kernel
theorem dX4_isSecondRefused_111 : decode cX4_isSecondRefused 111 = .ok (.iaload, 1) := by decide +kernel
theorem dX4_isSecondRefused_112 : decode cX4_isSecondRefused 112 = .ok (.if_icmp .lt 7, 3) := by decide +kernel
theorem dX4_isSecondRefused_115 : decode cX4_isSecondRefused 115 = .ok (.iconst 1, 1) := by decide +kernel
theorem dX4_isSecondRefused_116 : decode cX4_isSecondRefused 116 = .ok (.goto 4, 3) := by decide +kernel
theorem dX4_isSecondRefused_119 : decode cX4_isSecondRefused 119 = .ok (.iconst 0, 1) := by decide +kernel
theorem dX4_isSecondRefused_120 : decode cX4_isSecondRefused 120 = .ok (.ireturn, 1) := by decide +kernel
theorem dX4_twoBest_0 : decode cX4_twoBest 0 = .ok (.iconst (-1), 1) := by decide +kernel
theorem dX4_twoBest_1 : decode cX4_twoBest 1 = .ok (.istore_n 1, 1) := by decide +kernel
theorem dX4_twoBest_2 : decode cX4_twoBest 2 = .ok (.ldc 220, 2) := by decide +kernel
theorem dX4_twoBest_4 : decode cX4_twoBest 4 = .ok (.istore_n 2, 1) := by decide +kernel
theorem dX4_twoBest_5 : decode cX4_twoBest 5 = .ok (.aload_n 0, 1) := by decide +kernel
theorem dX4_twoBest_6 : decode cX4_twoBest 6 = .ok (.aload_n 0, 1) := by decide +kernel
theorem dX4_twoBest_7 : decode cX4_twoBest 7 = .ok (.getfield 7, 3) := by decide +kernel
theorem dX4_twoBest_10 : decode cX4_twoBest 10 = .ok (.iconst 2, 1) := by decide +kernel
theorem dX4_twoBest_11 : decode cX4_twoBest 11 = .ok (.iaload, 1) := by decide +kernel
theorem dX4_twoBest_12 : decode cX4_twoBest 12 = .ok (.invokevirtual 88, 3) := by decide +kernel
theorem dX4_twoBest_15 : decode cX4_twoBest 15 = .ok (.istore_n 3, 1) := by decide +kernel
theorem dX4_twoBest_16 : decode cX4_twoBest 16 = .ok (.iconst 0, 1) := by decide +kernel
theorem dX4_twoBest_17 : decode cX4_twoBest 17 = .ok (.istore 4, 2) := by decide +kernel
theorem dX4_twoBest_19 : decode cX4_twoBest 19 = .ok (.iload 4, 2) := by decide +kernel
theorem dX4_twoBest_21 : decode cX4_twoBest 21 = .ok (.aload_n 0, 1) := by decide +kernel
theorem dX4_twoBest_22 : decode cX4_twoBest 22 = .ok (.getfield 7, 3) := by decide +kernel
theorem dX4_twoBest_25 : decode cX4_twoBest 25 = .ok (.iconst 0, 1) := by decide +kernel
theorem dX4_twoBest_26 : decode cX4_twoBest 26 = .ok (.iaload, 1) := by decide +kernel
theorem dX4_twoBest_27 : decode cX4_twoBest 27 = .ok (.if_icmp .ge 149, 3) := by decide +kernel
theorem dX4_twoBest_30 : decode cX4_twoBest 30 = .ok (.aload_n 0, 1) := by decide +kernel
theorem dX4_twoBest_31 : decode cX4_twoBest 31 = .ok (.aload_n 0, 1) := by decide +kernel
theorem dX4_twoBest_32 : decode cX4_twoBest 32 = .ok (.getfield 7, 3) := by decide +kernel
theorem dX4_twoBest_35 : decode cX4_twoBest 35 = .ok (.iconst 1, 1) := by decide +kernel
theorem dX4_twoBest_36 : decode cX4_twoBest 36 = .ok (.iaload, 1) := by decide +kernel
theorem dX4_twoBest_37 : decode cX4_twoBest 37 = .ok (.iload 4, 2) := by decide +kernel
theorem dX4_twoBest_39 : decode cX4_twoBest 39 = .ok (.aload_n 0, 1) := by decide +kernel
theorem dX4_twoBest_40 : decode cX4_twoBest 40 = .ok (.getfield 7, 3) := by decide +kernel
theorem dX4_twoBest_43 : decode cX4_twoBest 43 = .ok (.iconst 2, 1) := by decide +kernel
theorem dX4_twoBest_44 : decode cX4_twoBest 44 = .ok (.iaload, 1) := by decide +kernel
theorem dX4_twoBest_45 : decode cX4_twoBest 45 = .ok (.invokevirtual 107, 3) := by decide +kernel
theorem dX4_twoBest_48 : decode cX4_twoBest 48 = .ok (.ifCond .ne 122, 3) := by decide +kernel
theorem dX4_twoBest_51 : decode cX4_twoBest 51 = .ok (.aload_n 0, 1) := by decide +kernel
theorem dX4_twoBest_52 : decode cX4_twoBest 52 = .ok (.aload_n 0, 1) := by decide +kernel
theorem dX4_twoBest_53 : decode cX4_twoBest 53 = .ok (.getfield 7, 3) := by decide +kernel
theorem dX4_twoBest_56 : decode cX4_twoBest 56 = .ok (.iconst 1, 1) := by decide +kernel
theorem dX4_twoBest_57 : decode cX4_twoBest 57 = .ok (.iaload, 1) := by decide +kernel
theorem dX4_twoBest_58 : decode cX4_twoBest 58 = .ok (.iload 4, 2) := by decide +kernel
theorem dX4_twoBest_60 : decode cX4_twoBest 60 = .ok (.iload_n 3, 1) := by decide +kernel
theorem dX4_twoBest_61 : decode cX4_twoBest 61 = .ok (.invokevirtual 111, 3) := by decide +kernel
theorem dX4_twoBest_64 : decode cX4_twoBest 64 = .ok (.istore 5, 2) := by decide +kernel
theorem dX4_twoBest_66 : decode cX4_twoBest 66 = .ok (.aload_n 0, 1) := by decide +kernel
theorem dX4_twoBest_67 : decode cX4_twoBest 67 = .ok (.aload_n 0, 1) := by decide +kernel
theorem dX4_twoBest_68 : decode cX4_twoBest 68 = .ok (.getfield 7, 3) := by decide +kernel
theorem dX4_twoBest_71 : decode cX4_twoBest 71 = .ok (.iconst 1, 1) := by decide +kernel
theorem dX4_twoBest_72 : decode cX4_twoBest 72 = .ok (.iaload, 1) := by decide +kernel
theorem dX4_twoBest_73 : decode cX4_twoBest 73 = .ok (.iload 4, 2) := by decide +kernel
theorem dX4_twoBest_75 : decode cX4_twoBest 75 = .ok (.iload_n 3, 1) := by decide +kernel
theorem dX4_twoBest_76 : decode cX4_twoBest 76 = .ok (.invokevirtual 91, 3) := by decide +kernel
theorem dX4_twoBest_79 : decode cX4_twoBest 79 = .ok (.iconst 0, 1) := by decide +kernel
theorem dX4_twoBest_80 : decode cX4_twoBest 80 = .ok (.istore 6, 2) := by decide +kernel
theorem dX4_twoBest_82 : decode cX4_twoBest 82 = .ok (.iload 6, 2) := by decide +kernel
theorem dX4_twoBest_84 : decode cX4_twoBest 84 = .ok (.aload_n 0, 1) := by decide +kernel
theorem dX4_twoBest_85 : decode cX4_twoBest 85 = .ok (.getfield 7, 3) := by decide +kernel
theorem dX4_twoBest_88 : decode cX4_twoBest 88 = .ok (.iconst 0, 1) := by decide +kernel
theorem dX4_twoBest_89 : decode cX4_twoBest 89 = .ok (.iaload, 1) := by decide +kernel
theorem dX4_twoBest_90 : decode cX4_twoBest 90 = .ok (.if_icmp .ge 66, 3) := by decide +kernel
theorem dX4_twoBest_93 : decode cX4_twoBest 93 = .ok (.aload_n 0, 1) := by decide +kernel
theorem dX4_twoBest_94 : decode cX4_twoBest 94 = .ok (.iload 4, 2) := by decide +kernel
theorem dX4_twoBest_96 : decode cX4_twoBest 96 = .ok (.iload 6, 2) := by decide +kernel
theorem dX4_twoBest_98 : decode cX4_twoBest 98 = .ok (.invokevirtual 221, 3) := by decide +kernel
theorem dX4_twoBest_101 : decode cX4_twoBest 101 = .ok (.ifCond .ne 49, 3) := by decide +kernel
theorem dX4_twoBest_104 : decode cX4_twoBest 104 = .ok (.iload 5, 2) := by decide +kernel
theorem dX4_twoBest_106 : decode cX4_twoBest 106 = .ok (.aload_n 0, 1) := by decide +kernel
theorem dX4_twoBest_107 : decode cX4_twoBest 107 = .ok (.iload 4, 2) := by decide +kernel
theorem dX4_twoBest_109 : decode cX4_twoBest 109 = .ok (.iload 6, 2) := by decide +kernel
theorem dX4_twoBest_111 : decode cX4_twoBest 111 = .ok (.iload_n 3, 1) := by decide +kernel
theorem dX4_twoBest_112 : decode cX4_twoBest 112 = .ok (.invokevirtual 111, 3) := by decide +kernel
theorem dX4_twoBest_115 : decode cX4_twoBest 115 = .ok (.iadd, 1) := by decide +kernel
theorem dX4_twoBest_116 : decode cX4_twoBest 116 = .ok (.istore 7, 2) := by decide +kernel
theorem dX4_twoBest_118 : decode cX4_twoBest 118 = .ok (.iload 7, 2) := by decide +kernel
theorem dX4_twoBest_120 : decode cX4_twoBest 120 = .ok (.iload_n 2, 1) := by decide +kernel
theorem dX4_twoBest_121 : decode cX4_twoBest 121 = .ok (.if_icmp .le 14, 3) := by decide +kernel
theorem dX4_twoBest_124 : decode cX4_twoBest 124 = .ok (.bipush 100, 2) := by decide +kernel
theorem dX4_twoBest_126 : decode cX4_twoBest 126 = .ok (.iload 4, 2) := by decide +kernel
theorem dX4_twoBest_128 : decode cX4_twoBest 128 = .ok (.imul, 1) := by decide +kernel
theorem dX4_twoBest_129 : decode cX4_twoBest 129 = .ok (.iload 6, 2) := by decide +kernel
theorem dX4_twoBest_131 : decode cX4_twoBest 131 = .ok (.iadd, 1) := by decide +kernel
theorem dX4_twoBest_132 : decode cX4_twoBest 132 = .ok (.goto 4, 3) := by decide +kernel
theorem dX4_twoBest_135 : decode cX4_twoBest 135 = .ok (.iload_n 1, 1) := by decide +kernel
theorem dX4_twoBest_136 : decode cX4_twoBest 136 = .ok (.istore_n 1, 1) := by decide +kernel
theorem dX4_twoBest_137 : decode cX4_twoBest 137 = .ok (.iload 7, 2) := by decide +kernel
theorem dX4_twoBest_139 : decode cX4_twoBest 139 = .ok (.iload_n 2, 1) := by decide +kernel
theorem dX4_twoBest_140 : decode cX4_twoBest 140 = .ok (.if_icmp .le 8, 3) := by decide +kernel
theorem dX4_twoBest_143 : decode cX4_twoBest 143 = .ok (.iload 7, 2) := by decide +kernel
theorem dX4_twoBest_145 : decode cX4_twoBest 145 = .ok (.goto 4, 3) := by decide +kernel
theorem dX4_twoBest_148 : decode cX4_twoBest 148 = .ok (.iload_n 2, 1) := by decide +kernel
theorem dX4_twoBest_149 : decode cX4_twoBest 149 = .ok (.istore_n 2, 1) := by decide +kernel
theorem dX4_twoBest_150 : decode cX4_twoBest 150 = .ok (.iinc 6 1, 3) := by decide +kernel
theorem dX4_twoBest_153 : decode cX4_twoBest 153 = .ok (.goto (-71), 3) := by decide +kernel
theorem dX4_twoBest_156 : decode cX4_twoBest 156 = .ok (.aload_n 0, 1) := by decide +kernel
theorem dX4_twoBest_157 : decode cX4_twoBest 157 = .ok (.aload_n 0, 1) := by decide +kernel
theorem dX4_twoBest_158 : decode cX4_twoBest 158 = .ok (.getfield 7, 3) := by decide +kernel
theorem dX4_twoBest_161 : decode cX4_twoBest 161 = .ok (.iconst 1, 1) := by decide +kernel
theorem dX4_twoBest_162 : decode cX4_twoBest 162 = .ok (.iaload, 1) := by decide +kernel
theorem dX4_twoBest_163 : decode cX4_twoBest 163 = .ok (.iload 4, 2) := by decide +kernel
theorem dX4_twoBest_165 : decode cX4_twoBest 165 = .ok (.iload_n 3, 1) := by decide +kernel
theorem dX4_twoBest_166 : decode cX4_twoBest 166 = .ok (.ineg, 1) := by decide +kernel
theorem dX4_twoBest_167 : decode cX4_twoBest 167 = .ok (.invokevirtual 91, 3) := by decide +kernel
theorem dX4_twoBest_170 : decode cX4_twoBest 170 = .ok (.iinc 4 1, 3) := by decide +kernel
theorem dX4_twoBest_173 : decode cX4_twoBest 173 = .ok (.goto (-154), 3) := by decide +kernel
theorem dX4_twoBest_176 : decode cX4_twoBest 176 = .ok (.iload_n 1, 1) := by decide +kernel
theorem dX4_twoBest_177 : decode cX4_twoBest 177 = .ok (.ireturn, 1) := by decide +kernel
theorem dX4_bestTwo_0 : decode cX4_bestTwo 0 = .ok (.aload_n 0, 1) := by decide +kernel
theorem dX4_bestTwo_1 : decode cX4_bestTwo 1 = .ok (.iconst 0, 1) := by decide +kernel
theorem dX4_bestTwo_2 : decode cX4_bestTwo 2 = .ok (.putfield 35, 3) := by decide +kernel
theorem dX4_bestTwo_5 : decode cX4_bestTwo 5 = .ok (.aload_n 0, 1) := by decide +kernel
theorem dX4_bestTwo_6 : decode cX4_bestTwo 6 = .ok (.invokevirtual 224, 3) := by decide +kernel
theorem dX4_bestTwo_9 : decode cX4_bestTwo 9 = .ok (.ireturn, 1) := by decide +kernel
theorem dX4_palestOne_0 : decode cX4_palestOne 0 = .ok (.iconst (-1), 1) := by decide +kernel
theorem dX4_palestOne_1 : decode cX4_palestOne 1 = .ok (.istore_n 1, 1) := by decide +kernel
theorem dX4_palestOne_2 : decode cX4_palestOne 2 = .ok (.iconst 0, 1) := by decide +kernel
theorem dX4_palestOne_3 : decode cX4_palestOne 3 = .ok (.istore_n 2, 1) := by decide +kernel
theorem dX4_palestOne_4 : decode cX4_palestOne 4 = .ok (.iconst 0, 1) := by decide +kernel
theorem dX4_palestOne_5 : decode cX4_palestOne 5 = .ok (.istore_n 3, 1) := by decide +kernel
theorem dX4_palestOne_6 : decode cX4_palestOne 6 = .ok (.iload_n 3, 1) := by decide +kernel
theorem dX4_palestOne_7 : decode cX4_palestOne 7 = .ok (.sipush 144, 3) := by decide +kernel
theorem dX4_palestOne_10 : decode cX4_palestOne 10 = .ok (.if_icmp .ge 52, 3) := by decide +kernel
theorem dX4_palestOne_13 : decode cX4_palestOne 13 = .ok (.aload_n 0, 1) := by decide +kernel
theorem dX4_palestOne_14 : decode cX4_palestOne 14 = .ok (.iload_n 3, 1) := by decide +kernel
theorem dX4_palestOne_15 : decode cX4_palestOne 15 = .ok (.invokevirtual 104, 3) := by decide +kernel
theorem dX4_palestOne_18 : decode cX4_palestOne 18 = .ok (.istore 4, 2) := by decide +kernel
theorem dX4_palestOne_20 : decode cX4_palestOne 20 = .ok (.iload 4, 2) := by decide +kernel
theorem dX4_palestOne_22 : decode cX4_palestOne 22 = .ok (.iload_n 2, 1) := by decide +kernel
theorem dX4_palestOne_23 : decode cX4_palestOne 23 = .ok (.if_icmp .le 18, 3) := by decide +kernel
theorem dX4_palestOne_26 : decode cX4_palestOne 26 = .ok (.bipush 100, 2) := by decide +kernel
theorem dX4_palestOne_28 : decode cX4_palestOne 28 = .ok (.iload_n 3, 1) := by decide +kernel
theorem dX4_palestOne_29 : decode cX4_palestOne 29 = .ok (.bipush 12, 2) := by decide +kernel
theorem dX4_palestOne_31 : decode cX4_palestOne 31 = .ok (.idiv, 1) := by decide +kernel
theorem dX4_palestOne_32 : decode cX4_palestOne 32 = .ok (.imul, 1) := by decide +kernel
theorem dX4_palestOne_33 : decode cX4_palestOne 33 = .ok (.iload_n 3, 1) := by decide +kernel
theorem dX4_palestOne_34 : decode cX4_palestOne 34 = .ok (.bipush 12, 2) := by decide +kernel
theorem dX4_palestOne_36 : decode cX4_palestOne 36 = .ok (.irem, 1) := by decide +kernel
theorem dX4_palestOne_37 : decode cX4_palestOne 37 = .ok (.iadd, 1) := by decide +kernel
theorem dX4_palestOne_38 : decode cX4_palestOne 38 = .ok (.goto 4, 3) := by decide +kernel
theorem dX4_palestOne_41 : decode cX4_palestOne 41 = .ok (.iload_n 1, 1) := by decide +kernel
theorem dX4_palestOne_42 : decode cX4_palestOne 42 = .ok (.istore_n 1, 1) := by decide +kernel
theorem dX4_palestOne_43 : decode cX4_palestOne 43 = .ok (.iload 4, 2) := by decide +kernel
theorem dX4_palestOne_45 : decode cX4_palestOne 45 = .ok (.iload_n 2, 1) := by decide +kernel
theorem dX4_palestOne_46 : decode cX4_palestOne 46 = .ok (.if_icmp .le 8, 3) := by decide +kernel
theorem dX4_palestOne_49 : decode cX4_palestOne 49 = .ok (.iload 4, 2) := by decide +kernel
theorem dX4_palestOne_51 : decode cX4_palestOne 51 = .ok (.goto 4, 3) := by decide +kernel
theorem dX4_palestOne_54 : decode cX4_palestOne 54 = .ok (.iload_n 2, 1) := by decide +kernel
theorem dX4_palestOne_55 : decode cX4_palestOne 55 = .ok (.istore_n 2, 1) := by decide +kernel
theorem dX4_palestOne_56 : decode cX4_palestOne 56 = .ok (.iinc 3 1, 3) := by decide +kernel
theorem dX4_palestOne_59 : decode cX4_palestOne 59 = .ok (.goto (-53), 3) := by decide +kernel
theorem dX4_palestOne_62 : decode cX4_palestOne 62 = .ok (.iload_n 1, 1) := by decide +kernel
theorem dX4_palestOne_63 : decode cX4_palestOne 63 = .ok (.ireturn, 1) := by decide +kernel
theorem dX4_palest_0 : decode cX4_palest 0 = .ok (.aload_n 0, 1) := by decide +kernel
theorem dX4_palest_1 : decode cX4_palest 1 = .ok (.iconst 0, 1) := by decide +kernel
theorem dX4_palest_2 : decode cX4_palest 2 = .ok (.putfield 35, 3) := by decide +kernel
theorem dX4_palest_5 : decode cX4_palest 5 = .ok (.aload_n 0, 1) := by decide +kernel
theorem dX4_palest_6 : decode cX4_palest 6 = .ok (.invokevirtual 227, 3) := by decide +kernel
theorem dX4_palest_9 : decode cX4_palest 9 = .ok (.ireturn, 1) := by decide +kernel
theorem dX4_spoolBest_0 : decode cX4_spoolBest 0 = .ok (.iconst (-1), 1) := by decide +kernel
theorem dX4_spoolBest_1 : decode cX4_spoolBest 1 = .ok (.istore_n 1, 1) := by decide +kernel
theorem dX4_spoolBest_2 : decode cX4_spoolBest 2 = .ok (.ldc 220, 2) := by decide +kernel
theorem dX4_spoolBest_4 : decode cX4_spoolBest 4 = .ok (.istore_n 2, 1) := by decide +kernel
theorem dX4_spoolBest_5 : decode cX4_spoolBest 5 = .ok (.iconst 0, 1) := by decide +kernel
theorem dX4_spoolBest_6 : decode cX4_spoolBest 6 = .ok (.istore_n 3, 1) := by decide +kernel
theorem dX4_spoolBest_7 : decode cX4_spoolBest 7 = .ok (.iload_n 3, 1) := by decide +kernel
theorem dX4_spoolBest_8 : decode cX4_spoolBest 8 = .ok (.iconst 3, 1) := by decide +kernel
theorem dX4_spoolBest_9 : decode cX4_spoolBest 9 = .ok (.if_icmp .ge 71, 3) := by decide +kernel
theorem dX4_spoolBest_12 : decode cX4_spoolBest 12 = .ok (.aload_n 0, 1) := by decide +kernel
theorem dX4_spoolBest_13 : decode cX4_spoolBest 13 = .ok (.iload_n 3, 1) := by decide +kernel
theorem dX4_spoolBest_14 : decode cX4_spoolBest 14 = .ok (.invokevirtual 141, 3) := by decide +kernel
theorem dX4_spoolBest_17 : decode cX4_spoolBest 17 = .ok (.istore 4, 2) := by decide +kernel
theorem dX4_spoolBest_19 : decode cX4_spoolBest 19 = .ok (.iload 4, 2) := by decide +kernel
theorem dX4_spoolBest_21 : decode cX4_spoolBest 21 = .ok (.iconst (-1), 1) := by decide +kernel
theorem dX4_spoolBest_22 : decode cX4_spoolBest 22 = .ok (.if_icmp .ne 8, 3) := by decide +kernel
theorem dX4_spoolBest_25 : decode cX4_spoolBest 25 = .ok (.ldc 220, 2) := by decide +kernel
theorem dX4_spoolBest_27 : decode cX4_spoolBest 27 = .ok (.goto 20, 3) := by decide +kernel
theorem dX4_spoolBest_30 : decode cX4_spoolBest 30 = .ok (.aload_n 0, 1) := by decide +kernel
theorem dX4_spoolBest_31 : decode cX4_spoolBest 31 = .ok (.aload_n 0, 1) := by decide +kernel
theorem dX4_spoolBest_32 : decode cX4_spoolBest 32 = .ok (.getfield 7, 3) := by decide +kernel
theorem dX4_spoolBest_35 : decode cX4_spoolBest 35 = .ok (.iconst 1, 1) := by decide +kernel
theorem dX4_spoolBest_36 : decode cX4_spoolBest 36 = .ok (.iaload, 1) := by decide +kernel
theorem dX4_spoolBest_37 : decode cX4_spoolBest 37 = .ok (.iload 4, 2) := by decide +kernel
theorem dX4_spoolBest_39 : decode cX4_spoolBest 39 = .ok (.aload_n 0, 1) := by decide +kernel
theorem dX4_spoolBest_40 : decode cX4_spoolBest 40 = .ok (.iload_n 3, 1) := by decide +kernel
theorem dX4_spoolBest_41 : decode cX4_spoolBest 41 = .ok (.invokevirtual 88, 3) := by decide +kernel
theorem dX4_spoolBest_44 : decode cX4_spoolBest 44 = .ok (.invokevirtual 111, 3) := by decide +kernel
theorem dX4_spoolBest_47 : decode cX4_spoolBest 47 = .ok (.istore 5, 2) := by decide +kernel
theorem dX4_spoolBest_49 : decode cX4_spoolBest 49 = .ok (.iload 5, 2) := by decide +kernel
theorem dX4_spoolBest_51 : decode cX4_spoolBest 51 = .ok (.iload_n 2, 1) := by decide +kernel
theorem dX4_spoolBest_52 : decode cX4_spoolBest 52 = .ok (.if_icmp .le 7, 3) := by decide +kernel
theorem dX4_spoolBest_55 : decode cX4_spoolBest 55 = .ok (.iload_n 3, 1) := by decide +kernel
theorem dX4_spoolBest_56 : decode cX4_spoolBest 56 = .ok (.goto 4, 3) := by decide +kernel
theorem dX4_spoolBest_59 : decode cX4_spoolBest 59 = .ok (.iload_n 1, 1) := by decide +kernel
theorem dX4_spoolBest_60 : decode cX4_spoolBest 60 = .ok (.istore_n 1, 1) := by decide +kernel
theorem dX4_spoolBest_61 : decode cX4_spoolBest 61 = .ok (.iload 5, 2) := by decide +kernel
theorem dX4_spoolBest_63 : decode cX4_spoolBest 63 = .ok (.iload_n 2, 1) := by decide +kernel
theorem dX4_spoolBest_64 : decode cX4_spoolBest 64 = .ok (.if_icmp .le 8, 3) := by decide +kernel
theorem dX4_spoolBest_67 : decode cX4_spoolBest 67 = .ok (.iload 5, 2) := by decide +kernel
theorem dX4_spoolBest_69 : decode cX4_spoolBest 69 = .ok (.goto 4, 3) := by decide +kernel
theorem dX4_spoolBest_72 : decode cX4_spoolBest 72 = .ok (.iload_n 2, 1) := by decide +kernel
theorem dX4_spoolBest_73 : decode cX4_spoolBest 73 = .ok (.istore_n 2, 1) := by decide +kernel
theorem dX4_spoolBest_74 : decode cX4_spoolBest 74 = .ok (.iinc 3 1, 3) := by decide +kernel
theorem dX4_spoolBest_77 : decode cX4_spoolBest 77 = .ok (.goto (-70), 3) := by decide +kernel
theorem dX4_spoolBest_80 : decode cX4_spoolBest 80 = .ok (.iload_n 1, 1) := by decide +kernel
theorem dX4_spoolBest_81 : decode cX4_spoolBest 81 = .ok (.ireturn, 1) := by decide +kernel
theorem dX4_bestSpool_0 : decode cX4_bestSpool 0 = .ok (.aload_n 0, 1) := by decide +kernel
theorem dX4_bestSpool_1 : decode cX4_bestSpool 1 = .ok (.iconst 0, 1) := by decide +kernel
theorem dX4_bestSpool_2 : decode cX4_bestSpool 2 = .ok (.putfield 35, 3) := by decide +kernel
theorem dX4_bestSpool_5 : decode cX4_bestSpool 5 = .ok (.aload_n 0, 1) := by decide +kernel
theorem dX4_bestSpool_6 : decode cX4_bestSpool 6 = .ok (.invokevirtual 230, 3) := by decide +kernel
theorem dX4_bestSpool_9 : decode cX4_bestSpool 9 = .ok (.ireturn, 1) := by decide +kernel
theorem dX4_share_0 : decode cX4_share 0 = .ok (.aload_n 0, 1) := by decide +kernel
theorem dX4_share_1 : decode cX4_share 1 = .ok (.iconst 0, 1) := by decide +kernel
theorem dX4_share_2 : decode cX4_share 2 = .ok (.invokevirtual 211, 3) := by decide +kernel
theorem dX4_share_5 : decode cX4_share 5 = .ok (.i2d, 1) := by decide +kernel
theorem dX4_share_6 : decode cX4_share 6 = .ok (.ldc2_w 233, 3) := by decide +kernel
theorem dX4_share_9 : decode cX4_share 9 = .ok (.ddiv, 1) := by decide +kernel
theorem dX4_share_10 : decode cX4_share 10 = .ok (.dreturn, 1) := by decide +kernel
theorem dX4_shownShare_0 : decode cX4_shownShare 0 = .ok (.aload_n 0, 1) := by decide +kernel
theorem dX4_shownShare_1 : decode cX4_shownShare 1 = .ok (.iconst 0, 1) := by decide +kernel
theorem dX4_shownShare_2 : decode cX4_shownShare 2 = .ok (.putfield 35, 3) := by decide +kernel
theorem dX4_shownShare_5 : decode cX4_shownShare 5 = .ok (.aload_n 0, 1) := by decide +kernel
theorem dX4_shownShare_6 : decode cX4_shownShare 6 = .ok (.invokevirtual 235, 3) := by decide +kernel
theorem dX4_shownShare_9 : decode cX4_shownShare 9 = .ok (.dreturn, 1) := by decide +kernel
theorem dX4_hashes_0 : decode cX4_hashes 0 = .ok (.aload_n 0, 1) := by decide +kernel
theorem dX4_hashes_1 : decode cX4_hashes 1 = .ok (.ldc2_w 239, 3) := by decide +kernel
theorem dX4_hashes_4 : decode cX4_hashes 4 = .ok (.aload_n 0, 1) := by decide +kernel
theorem dX4_hashes_5 : decode cX4_hashes 5 = .ok (.getfield 241, 3) := by decide +kernel
theorem dX4_hashes_8 : decode cX4_hashes 8 = .ok (.lmul, 1) := by decide +kernel
theorem dX4_hashes_9 : decode cX4_hashes 9 = .ok (.lload_n 1, 1) := by decide +kernel
theorem dX4_hashes_10 : decode cX4_hashes 10 = .ok (.ladd, 1) := by decide +kernel
theorem dX4_hashes_11 : decode cX4_hashes 11 = .ok (.putfield 241, 3) := by decide +kernel
theorem dX4_hashes_14 : decode cX4_hashes 14 = .ok (.return_, 1) := by decide +kernel
theorem dX4_hashesNail_0 : decode cX4_hashesNail 0 = .ok (.iconst 0, 1) := by decide +kernel
theorem dX4_hashesNail_1 : decode cX4_hashesNail 1 = .ok (.istore_n 2, 1) := by decide +kernel
theorem dX4_hashesNail_2 : decode cX4_hashesNail 2 = .ok (.iload_n 2, 1) := by decide +kernel
theorem dX4_hashesNail_3 : decode cX4_hashesNail 3 = .ok (.iconst 4, 1) := by decide +kernel
theorem dX4_hashesNail_4 : decode cX4_hashesNail 4 = .ok (.if_icmp .ge 20, 3) := by decide +kernel
theorem dX4_hashesNail_7 : decode cX4_hashesNail 7 = .ok (.aload_n 0, 1) := by decide +kernel
theorem dX4_hashesNail_8 : decode cX4_hashesNail 8 = .ok (.aload_n 0, 1) := by decide +kernel
theorem dX4_hashesNail_9 : decode cX4_hashesNail 9 = .ok (.iload_n 1, 1) := by decide +kernel
theorem dX4_hashesNail_10 : decode cX4_hashesNail 10 = .ok (.iload_n 2, 1) := by decide +kernel
theorem dX4_hashesNail_11 : decode cX4_hashesNail 11 = .ok (.invokevirtual 190, 3) := by decide +kernel
theorem dX4_hashesNail_14 : decode cX4_hashesNail 14 = .ok (.i2l, 1) := by decide +kernel
theorem dX4_hashesNail_15 : decode cX4_hashesNail 15 = .ok (.invokevirtual 245, 3) := by decide +kernel
theorem dX4_hashesNail_18 : decode cX4_hashesNail 18 = .ok (.iinc 2 1, 3) := by decide +kernel
theorem dX4_hashesNail_21 : decode cX4_hashesNail 21 = .ok (.goto (-19), 3) := by decide +kernel
theorem dX4_hashesNail_24 : decode cX4_hashesNail 24 = .ok (.aload_n 0, 1) := by decide +kernel
theorem dX4_hashesNail_25 : decode cX4_hashesNail 25 = .ok (.aload_n 0, 1) := by decide +kernel
theorem dX4_hashesNail_26 : decode cX4_hashesNail 26 = .ok (.aload_n 0, 1) := by decide +kernel
theorem dX4_hashesNail_27 : decode cX4_hashesNail 27 = .ok (.getfield 7, 3) := by decide +kernel
theorem dX4_hashesNail_30 : decode cX4_hashesNail 30 = .ok (.iconst 1, 1) := by decide +kernel
theorem dX4_hashesNail_31 : decode cX4_hashesNail 31 = .ok (.iaload, 1) := by decide +kernel
theorem dX4_hashesNail_32 : decode cX4_hashesNail 32 = .ok (.iload_n 1, 1) := by decide +kernel
theorem dX4_hashesNail_33 : decode cX4_hashesNail 33 = .ok (.aload_n 0, 1) := by decide +kernel
theorem dX4_hashesNail_34 : decode cX4_hashesNail 34 = .ok (.getfield 7, 3) := by decide +kernel
theorem dX4_hashesNail_37 : decode cX4_hashesNail 37 = .ok (.iconst 2, 1) := by decide +kernel
theorem dX4_hashesNail_38 : decode cX4_hashesNail 38 = .ok (.iaload, 1) := by decide +kernel
theorem dX4_hashesNail_39 : decode cX4_hashesNail 39 = .ok (.invokevirtual 107, 3) := by decide +kernel
theorem dX4_hashesNail_42 : decode cX4_hashesNail 42 = .ok (.i2l, 1) := by decide +kernel
theorem dX4_hashesNail_43 : decode cX4_hashesNail 43 = .ok (.invokevirtual 245, 3) := by decide +kernel
theorem dX4_hashesNail_46 : decode cX4_hashesNail 46 = .ok (.aload_n 0, 1) := by decide +kernel
theorem dX4_hashesNail_47 : decode cX4_hashesNail 47 = .ok (.aload_n 0, 1) := by decide +kernel
theorem dX4_hashesNail_48 : decode cX4_hashesNail 48 = .ok (.iload_n 1, 1) := by decide +kernel
theorem dX4_hashesNail_49 : decode cX4_hashesNail 49 = .ok (.invokevirtual 217, 3) := by decide +kernel
theorem dX4_hashesNail_52 : decode cX4_hashesNail 52 = .ok (.i2l, 1) := by decide +kernel
theorem dX4_hashesNail_53 : decode cX4_hashesNail 53 = .ok (.invokevirtual 245, 3) := by decide +kernel
theorem dX4_hashesNail_56 : decode cX4_hashesNail 56 = .ok (.return_, 1) := by decide +kernel
theorem dX4_hashesLooks_0 : decode cX4_hashesLooks 0 = .ok (.iconst 0, 1) := by decide +kernel
theorem dX4_hashesLooks_1 : decode cX4_hashesLooks 1 = .ok (.istore_n 1, 1) := by decide +kernel
theorem dX4_hashesLooks_2 : decode cX4_hashesLooks 2 = .ok (.iload_n 1, 1) := by decide +kernel
theorem dX4_hashesLooks_3 : decode cX4_hashesLooks 3 = .ok (.bipush 15, 2) := by decide +kernel
theorem dX4_hashesLooks_5 : decode cX4_hashesLooks 5 = .ok (.if_icmp .ge 24, 3) := by decide +kernel
theorem dX4_hashesLooks_8 : decode cX4_hashesLooks 8 = .ok (.aload_n 0, 1) := by decide +kernel
theorem dX4_hashesLooks_9 : decode cX4_hashesLooks 9 = .ok (.aload_n 0, 1) := by decide +kernel
theorem dX4_hashesLooks_10 : decode cX4_hashesLooks 10 = .ok (.iload_n 1, 1) := by decide +kernel
theorem dX4_hashesLooks_11 : decode cX4_hashesLooks 11 = .ok (.iconst 5, 1) := by decide +kernel
theorem dX4_hashesLooks_12 : decode cX4_hashesLooks 12 = .ok (.idiv, 1) := by decide +kernel
theorem dX4_hashesLooks_13 : decode cX4_hashesLooks 13 = .ok (.iload_n 1, 1) := by decide +kernel
theorem dX4_hashesLooks_14 : decode cX4_hashesLooks 14 = .ok (.iconst 5, 1) := by decide +kernel
theorem dX4_hashesLooks_15 : decode cX4_hashesLooks 15 = .ok (.irem, 1) := by decide +kernel
theorem dX4_hashesLooks_16 : decode cX4_hashesLooks 16 = .ok (.invokevirtual 196, 3) := by decide +kernel
theorem dX4_hashesLooks_19 : decode cX4_hashesLooks 19 = .ok (.i2l, 1) := by decide +kernel
theorem dX4_hashesLooks_20 : decode cX4_hashesLooks 20 = .ok (.invokevirtual 245, 3) := by decide +kernel
theorem dX4_hashesLooks_23 : decode cX4_hashesLooks 23 = .ok (.iinc 1 1, 3) := by decide +kernel
theorem dX4_hashesLooks_26 : decode cX4_hashesLooks 26 = .ok (.goto (-24), 3) := by decide +kernel
theorem dX4_hashesLooks_29 : decode cX4_hashesLooks 29 = .ok (.iconst 0, 1) := by decide +kernel
theorem dX4_hashesLooks_30 : decode cX4_hashesLooks 30 = .ok (.istore_n 1, 1) := by decide +kernel
theorem dX4_hashesLooks_31 : decode cX4_hashesLooks 31 = .ok (.iload_n 1, 1) := by decide +kernel
theorem dX4_hashesLooks_32 : decode cX4_hashesLooks 32 = .ok (.bipush 30, 2) := by decide +kernel
theorem dX4_hashesLooks_34 : decode cX4_hashesLooks 34 = .ok (.if_icmp .ge 24, 3) := by decide +kernel
theorem dX4_hashesLooks_37 : decode cX4_hashesLooks 37 = .ok (.aload_n 0, 1) := by decide +kernel
theorem dX4_hashesLooks_38 : decode cX4_hashesLooks 38 = .ok (.aload_n 0, 1) := by decide +kernel
theorem dX4_hashesLooks_39 : decode cX4_hashesLooks 39 = .ok (.iload_n 1, 1) := by decide +kernel
theorem dX4_hashesLooks_40 : decode cX4_hashesLooks 40 = .ok (.iconst 3, 1) := by decide +kernel
theorem dX4_hashesLooks_41 : decode cX4_hashesLooks 41 = .ok (.idiv, 1) := by decide +kernel
theorem dX4_hashesLooks_42 : decode cX4_hashesLooks 42 = .ok (.iload_n 1, 1) := by decide +kernel
theorem dX4_hashesLooks_43 : decode cX4_hashesLooks 43 = .ok (.iconst 3, 1) := by decide +kernel
theorem dX4_hashesLooks_44 : decode cX4_hashesLooks 44 = .ok (.irem, 1) := by decide +kernel
theorem dX4_hashesLooks_45 : decode cX4_hashesLooks 45 = .ok (.invokevirtual 202, 3) := by decide +kernel
theorem dX4_hashesLooks_48 : decode cX4_hashesLooks 48 = .ok (.i2l, 1) := by decide +kernel
theorem dX4_hashesLooks_49 : decode cX4_hashesLooks 49 = .ok (.invokevirtual 245, 3) := by decide +kernel
theorem dX4_hashesLooks_52 : decode cX4_hashesLooks 52 = .ok (.iinc 1 1, 3) := by decide +kernel
theorem dX4_hashesLooks_55 : decode cX4_hashesLooks 55 = .ok (.goto (-24), 3) := by decide +kernel
theorem dX4_hashesLooks_58 : decode cX4_hashesLooks 58 = .ok (.iconst 0, 1) := by decide +kernel
theorem dX4_hashesLooks_59 : decode cX4_hashesLooks 59 = .ok (.istore_n 1, 1) := by decide +kernel
theorem dX4_hashesLooks_60 : decode cX4_hashesLooks 60 = .ok (.iload_n 1, 1) := by decide +kernel
theorem dX4_hashesLooks_61 : decode cX4_hashesLooks 61 = .ok (.sipush 576, 3) := by decide +kernel
theorem dX4_hashesLooks_64 : decode cX4_hashesLooks 64 = .ok (.if_icmp .ge 24, 3) := by decide +kernel
theorem dX4_hashesLooks_67 : decode cX4_hashesLooks 67 = .ok (.aload_n 0, 1) := by decide +kernel
theorem dX4_hashesLooks_68 : decode cX4_hashesLooks 68 = .ok (.aload_n 0, 1) := by decide +kernel
theorem dX4_hashesLooks_69 : decode cX4_hashesLooks 69 = .ok (.iload_n 1, 1) := by decide +kernel
theorem dX4_hashesLooks_70 : decode cX4_hashesLooks 70 = .ok (.iconst 4, 1) := by decide +kernel
theorem dX4_hashesLooks_71 : decode cX4_hashesLooks 71 = .ok (.idiv, 1) := by decide +kernel
theorem dX4_hashesLooks_72 : decode cX4_hashesLooks 72 = .ok (.iload_n 1, 1) := by decide +kernel
theorem dX4_hashesLooks_73 : decode cX4_hashesLooks 73 = .ok (.iconst 4, 1) := by decide +kernel
theorem dX4_hashesLooks_74 : decode cX4_hashesLooks 74 = .ok (.irem, 1) := by decide +kernel
theorem dX4_hashesLooks_75 : decode cX4_hashesLooks 75 = .ok (.invokevirtual 208, 3) := by decide +kernel
theorem dX4_hashesLooks_78 : decode cX4_hashesLooks 78 = .ok (.i2l, 1) := by decide +kernel
theorem dX4_hashesLooks_79 : decode cX4_hashesLooks 79 = .ok (.invokevirtual 245, 3) := by decide +kernel
theorem dX4_hashesLooks_82 : decode cX4_hashesLooks 82 = .ok (.iinc 1 1, 3) := by decide +kernel
theorem dX4_hashesLooks_85 : decode cX4_hashesLooks 85 = .ok (.goto (-25), 3) := by decide +kernel
theorem dX4_hashesLooks_88 : decode cX4_hashesLooks 88 = .ok (.iconst 0, 1) := by decide +kernel
theorem dX4_hashesLooks_89 : decode cX4_hashesLooks 89 = .ok (.istore_n 1, 1) := by decide +kernel
theorem dX4_hashesLooks_90 : decode cX4_hashesLooks 90 = .ok (.iload_n 1, 1) := by decide +kernel
theorem dX4_hashesLooks_91 : decode cX4_hashesLooks 91 = .ok (.bipush 6, 2) := by decide +kernel
theorem dX4_hashesLooks_93 : decode cX4_hashesLooks 93 = .ok (.if_icmp .ge 27, 3) := by decide +kernel
theorem dX4_hashesLooks_96 : decode cX4_hashesLooks 96 = .ok (.aload_n 0, 1) := by decide +kernel
theorem dX4_hashesLooks_97 : decode cX4_hashesLooks 97 = .ok (.aload_n 0, 1) := by decide +kernel
theorem dX4_hashesLooks_98 : decode cX4_hashesLooks 98 = .ok (.iconst 0, 1) := by decide +kernel
theorem dX4_hashesLooks_99 : decode cX4_hashesLooks 99 = .ok (.iconst 1, 1) := by decide +kernel
theorem dX4_hashesLooks_100 : decode cX4_hashesLooks 100 = .ok (.iload_n 1, 1) := by decide +kernel
theorem dX4_hashesLooks_101 : decode cX4_hashesLooks 101 = .ok (.iconst 3, 1) := by decide +kernel
theorem dX4_hashesLooks_102 : decode cX4_hashesLooks 102 = .ok (.idiv, 1) := by decide +kernel
theorem dX4_hashesLooks_103 : decode cX4_hashesLooks 103 = .ok (.iadd, 1) := by decide +kernel
theorem dX4_hashesLooks_104 : decode cX4_hashesLooks 104 = .ok (.iload_n 1, 1) := by decide +kernel
theorem dX4_hashesLooks_105 : decode cX4_hashesLooks 105 = .ok (.iconst 3, 1) := by decide +kernel
theorem dX4_hashesLooks_106 : decode cX4_hashesLooks 106 = .ok (.irem, 1) := by decide +kernel
theorem dX4_hashesLooks_107 : decode cX4_hashesLooks 107 = .ok (.invokevirtual 199, 3) := by decide +kernel
theorem dX4_hashesLooks_110 : decode cX4_hashesLooks 110 = .ok (.i2l, 1) := by decide +kernel
theorem dX4_hashesLooks_111 : decode cX4_hashesLooks 111 = .ok (.invokevirtual 245, 3) := by decide +kernel
theorem dX4_hashesLooks_114 : decode cX4_hashesLooks 114 = .ok (.iinc 1 1, 3) := by decide +kernel
theorem dX4_hashesLooks_117 : decode cX4_hashesLooks 117 = .ok (.goto (-27), 3) := by decide +kernel
theorem dX4_hashesLooks_120 : decode cX4_hashesLooks 120 = .ok (.return_, 1) := by decide +kernel
theorem dX4_digest_0 : decode cX4_digest 0 = .ok (.aload_n 0, 1) := by decide +kernel
theorem dX4_digest_1 : decode cX4_digest 1 = .ok (.iconst 0, 1) := by decide +kernel
theorem dX4_digest_2 : decode cX4_digest 2 = .ok (.putfield 35, 3) := by decide +kernel
theorem dX4_digest_5 : decode cX4_digest 5 = .ok (.aload_n 0, 1) := by decide +kernel
theorem dX4_digest_6 : decode cX4_digest 6 = .ok (.ldc2_w 249, 3) := by decide +kernel
theorem dX4_digest_9 : decode cX4_digest 9 = .ok (.putfield 241, 3) := by decide +kernel
theorem dX4_digest_12 : decode cX4_digest 12 = .ok (.iconst 0, 1) := by decide +kernel
theorem dX4_digest_13 : decode cX4_digest 13 = .ok (.istore_n 1, 1) := by decide +kernel
theorem dX4_digest_14 : decode cX4_digest 14 = .ok (.iload_n 1, 1) := by decide +kernel
theorem dX4_digest_15 : decode cX4_digest 15 = .ok (.bipush 13, 2) := by decide +kernel
theorem dX4_digest_17 : decode cX4_digest 17 = .ok (.if_icmp .ge 19, 3) := by decide +kernel
theorem dX4_digest_20 : decode cX4_digest 20 = .ok (.aload_n 0, 1) := by decide +kernel
theorem dX4_digest_21 : decode cX4_digest 21 = .ok (.aload_n 0, 1) := by decide +kernel
theorem dX4_digest_22 : decode cX4_digest 22 = .ok (.iload_n 1, 1) := by decide +kernel
theorem dX4_digest_23 : decode cX4_digest 23 = .ok (.invokevirtual 214, 3) := by decide +kernel
theorem dX4_digest_26 : decode cX4_digest 26 = .ok (.i2l, 1) := by decide +kernel
theorem dX4_digest_27 : decode cX4_digest 27 = .ok (.invokevirtual 245, 3) := by decide +kernel
theorem dX4_digest_30 : decode cX4_digest 30 = .ok (.iinc 1 1, 3) := by decide +kernel
theorem dX4_digest_33 : decode cX4_digest 33 = .ok (.goto (-19), 3) := by decide +kernel
theorem dX4_digest_36 : decode cX4_digest 36 = .ok (.iconst 0, 1) := by decide +kernel
theorem dX4_digest_37 : decode cX4_digest 37 = .ok (.istore_n 1, 1) := by decide +kernel
theorem dX4_digest_38 : decode cX4_digest 38 = .ok (.iload_n 1, 1) := by decide +kernel
theorem dX4_digest_39 : decode cX4_digest 39 = .ok (.iconst 3, 1) := by decide +kernel
theorem dX4_digest_40 : decode cX4_digest 40 = .ok (.if_icmp .ge 23, 3) := by decide +kernel
theorem dX4_digest_43 : decode cX4_digest 43 = .ok (.aload_n 0, 1) := by decide +kernel
theorem dX4_digest_44 : decode cX4_digest 44 = .ok (.aload_n 0, 1) := by decide +kernel
theorem dX4_digest_45 : decode cX4_digest 45 = .ok (.getfield 7, 3) := by decide +kernel
theorem dX4_digest_48 : decode cX4_digest 48 = .ok (.bipush 6, 2) := by decide +kernel
theorem dX4_digest_50 : decode cX4_digest 50 = .ok (.iload_n 1, 1) := by decide +kernel
theorem dX4_digest_51 : decode cX4_digest 51 = .ok (.iadd, 1) := by decide +kernel
theorem dX4_digest_52 : decode cX4_digest 52 = .ok (.iaload, 1) := by decide +kernel
theorem dX4_digest_53 : decode cX4_digest 53 = .ok (.i2l, 1) := by decide +kernel
theorem dX4_digest_54 : decode cX4_digest 54 = .ok (.invokevirtual 245, 3) := by decide +kernel
theorem dX4_digest_57 : decode cX4_digest 57 = .ok (.iinc 1 1, 3) := by decide +kernel
theorem dX4_digest_60 : decode cX4_digest 60 = .ok (.goto (-22), 3) := by decide +kernel
theorem dX4_digest_63 : decode cX4_digest 63 = .ok (.iconst 0, 1) := by decide +kernel
theorem dX4_digest_64 : decode cX4_digest 64 = .ok (.istore_n 1, 1) := by decide +kernel
theorem dX4_digest_65 : decode cX4_digest 65 = .ok (.iload_n 1, 1) := by decide +kernel
theorem dX4_digest_66 : decode cX4_digest 66 = .ok (.aload_n 0, 1) := by decide +kernel
theorem dX4_digest_67 : decode cX4_digest 67 = .ok (.getfield 7, 3) := by decide +kernel
theorem dX4_digest_70 : decode cX4_digest 70 = .ok (.iconst 0, 1) := by decide +kernel
theorem dX4_digest_71 : decode cX4_digest 71 = .ok (.iaload, 1) := by decide +kernel
theorem dX4_digest_72 : decode cX4_digest 72 = .ok (.if_icmp .ge 14, 3) := by decide +kernel
theorem dX4_digest_75 : decode cX4_digest 75 = .ok (.aload_n 0, 1) := by decide +kernel
theorem dX4_digest_76 : decode cX4_digest 76 = .ok (.iload_n 1, 1) := by decide +kernel
theorem dX4_digest_77 : decode cX4_digest 77 = .ok (.invokevirtual 251, 3) := by decide +kernel
theorem dX4_digest_80 : decode cX4_digest 80 = .ok (.iinc 1 1, 3) := by decide +kernel
theorem dX4_digest_83 : decode cX4_digest 83 = .ok (.goto (-18), 3) := by decide +kernel
theorem dX4_digest_86 : decode cX4_digest 86 = .ok (.aload_n 0, 1) := by decide +kernel
theorem dX4_digest_87 : decode cX4_digest 87 = .ok (.invokevirtual 254, 3) := by decide +kernel
theorem dX4_digest_90 : decode cX4_digest 90 = .ok (.aload_n 0, 1) := by decide +kernel
theorem dX4_digest_91 : decode cX4_digest 91 = .ok (.aload_n 0, 1) := by decide +kernel
theorem dX4_digest_92 : decode cX4_digest 92 = .ok (.aload_n 0, 1) := by decide +kernel
theorem dX4_digest_93 : decode cX4_digest 93 = .ok (.getfield 7, 3) := by decide +kernel
theorem dX4_digest_96 : decode cX4_digest 96 = .ok (.iconst 2, 1) := by decide +kernel
theorem dX4_digest_97 : decode cX4_digest 97 = .ok (.iaload, 1) := by decide +kernel
theorem dX4_digest_98 : decode cX4_digest 98 = .ok (.invokevirtual 141, 3) := by decide +kernel
theorem dX4_digest_101 : decode cX4_digest 101 = .ok (.i2l, 1) := by decide +kernel
theorem dX4_digest_102 : decode cX4_digest 102 = .ok (.invokevirtual 245, 3) := by decide +kernel
theorem dX4_digest_105 : decode cX4_digest 105 = .ok (.aload_n 0, 1) := by decide +kernel
theorem dX4_digest_106 : decode cX4_digest 106 = .ok (.aload_n 0, 1) := by decide +kernel
theorem dX4_digest_107 : decode cX4_digest 107 = .ok (.invokevirtual 224, 3) := by decide +kernel
theorem dX4_digest_110 : decode cX4_digest 110 = .ok (.i2l, 1) := by decide +kernel
theorem dX4_digest_111 : decode cX4_digest 111 = .ok (.invokevirtual 245, 3) := by decide +kernel
theorem dX4_digest_114 : decode cX4_digest 114 = .ok (.aload_n 0, 1) := by decide +kernel
theorem dX4_digest_115 : decode cX4_digest 115 = .ok (.aload_n 0, 1) := by decide +kernel
theorem dX4_digest_116 : decode cX4_digest 116 = .ok (.invokevirtual 227, 3) := by decide +kernel
theorem dX4_digest_119 : decode cX4_digest 119 = .ok (.i2l, 1) := by decide +kernel
theorem dX4_digest_120 : decode cX4_digest 120 = .ok (.invokevirtual 245, 3) := by decide +kernel
theorem dX4_digest_123 : decode cX4_digest 123 = .ok (.aload_n 0, 1) := by decide +kernel
theorem dX4_digest_124 : decode cX4_digest 124 = .ok (.aload_n 0, 1) := by decide +kernel
theorem dX4_digest_125 : decode cX4_digest 125 = .ok (.invokevirtual 230, 3) := by decide +kernel
theorem dX4_digest_128 : decode cX4_digest 128 = .ok (.i2l, 1) := by decide +kernel
theorem dX4_digest_129 : decode cX4_digest 129 = .ok (.invokevirtual 245, 3) := by decide +kernel
theorem dX4_digest_132 : decode cX4_digest 132 = .ok (.aload_n 0, 1) := by decide +kernel
theorem dX4_digest_133 : decode cX4_digest 133 = .ok (.aload_n 0, 1) := by decide +kernel
theorem dX4_digest_134 : decode cX4_digest 134 = .ok (.invokevirtual 235, 3) := by decide +kernel
theorem dX4_digest_137 : decode cX4_digest 137 = .ok (.invokestatic 257, 3) := by decide +kernel
theorem dX4_digest_140 : decode cX4_digest 140 = .ok (.invokevirtual 245, 3) := by decide +kernel
theorem dX4_digest_143 : decode cX4_digest 143 = .ok (.aload_n 0, 1) := by decide +kernel
theorem dX4_digest_144 : decode cX4_digest 144 = .ok (.aload_n 0, 1) := by decide +kernel
theorem dX4_digest_145 : decode cX4_digest 145 = .ok (.getfield 19, 3) := by decide +kernel
theorem dX4_digest_148 : decode cX4_digest 148 = .ok (.iconst 0, 1) := by decide +kernel
theorem dX4_digest_149 : decode cX4_digest 149 = .ok (.baload, 1) := by decide +kernel
theorem dX4_digest_150 : decode cX4_digest 150 = .ok (.ifCond .eq 7, 3) := by decide +kernel
theorem dX4_digest_153 : decode cX4_digest 153 = .ok (.lconst 1, 1) := by decide +kernel
theorem dX4_digest_154 : decode cX4_digest 154 = .ok (.goto 4, 3) := by decide +kernel
theorem dX4_digest_157 : decode cX4_digest 157 = .ok (.lconst 0, 1) := by decide +kernel
theorem dX4_digest_158 : decode cX4_digest 158 = .ok (.invokevirtual 245, 3) := by decide +kernel
theorem dX4_digest_161 : decode cX4_digest 161 = .ok (.aload_n 0, 1) := by decide +kernel
theorem dX4_digest_162 : decode cX4_digest 162 = .ok (.aload_n 0, 1) := by decide +kernel
theorem dX4_digest_163 : decode cX4_digest 163 = .ok (.getfield 19, 3) := by decide +kernel
theorem dX4_digest_166 : decode cX4_digest 166 = .ok (.iconst 1, 1) := by decide +kernel
theorem dX4_digest_167 : decode cX4_digest 167 = .ok (.baload, 1) := by decide +kernel
theorem dX4_digest_168 : decode cX4_digest 168 = .ok (.ifCond .eq 7, 3) := by decide +kernel
theorem dX4_digest_171 : decode cX4_digest 171 = .ok (.lconst 1, 1) := by decide +kernel
theorem dX4_digest_172 : decode cX4_digest 172 = .ok (.goto 4, 3) := by decide +kernel
theorem dX4_digest_175 : decode cX4_digest 175 = .ok (.lconst 0, 1) := by decide +kernel
theorem dX4_digest_176 : decode cX4_digest 176 = .ok (.invokevirtual 245, 3) := by decide +kernel
theorem dX4_digest_179 : decode cX4_digest 179 = .ok (.aload_n 0, 1) := by decide +kernel
theorem dX4_digest_180 : decode cX4_digest 180 = .ok (.aload_n 0, 1) := by decide +kernel
theorem dX4_digest_181 : decode cX4_digest 181 = .ok (.getfield 160, 3) := by decide +kernel
theorem dX4_digest_184 : decode cX4_digest 184 = .ok (.i2l, 1) := by decide +kernel
theorem dX4_digest_185 : decode cX4_digest 185 = .ok (.invokevirtual 245, 3) := by decide +kernel
theorem dX4_digest_188 : decode cX4_digest 188 = .ok (.iconst 0, 1) := by decide +kernel
theorem dX4_digest_189 : decode cX4_digest 189 = .ok (.istore_n 1, 1) := by decide +kernel
theorem dX4_digest_190 : decode cX4_digest 190 = .ok (.iload_n 1, 1) := by decide +kernel
theorem dX4_digest_191 : decode cX4_digest 191 = .ok (.aload_n 0, 1) := by decide +kernel
theorem dX4_digest_192 : decode cX4_digest 192 = .ok (.getfield 160, 3) := by decide +kernel
theorem dX4_digest_195 : decode cX4_digest 195 = .ok (.if_icmp .ge 20, 3) := by decide +kernel
theorem dX4_digest_198 : decode cX4_digest 198 = .ok (.aload_n 0, 1) := by decide +kernel
theorem dX4_digest_199 : decode cX4_digest 199 = .ok (.aload_n 0, 1) := by decide +kernel
theorem dX4_digest_200 : decode cX4_digest 200 = .ok (.getfield 23, 3) := by decide +kernel
theorem dX4_digest_203 : decode cX4_digest 203 = .ok (.iload_n 1, 1) := by decide +kernel
theorem dX4_digest_204 : decode cX4_digest 204 = .ok (.iaload, 1) := by decide +kernel
theorem dX4_digest_205 : decode cX4_digest 205 = .ok (.i2l, 1) := by decide +kernel
theorem dX4_digest_206 : decode cX4_digest 206 = .ok (.invokevirtual 245, 3) := by decide +kernel
theorem dX4_digest_209 : decode cX4_digest 209 = .ok (.iinc 1 1, 3) := by decide +kernel
theorem dX4_digest_212 : decode cX4_digest 212 = .ok (.goto (-22), 3) := by decide +kernel
theorem dX4_digest_215 : decode cX4_digest 215 = .ok (.aload_n 0, 1) := by decide +kernel
theorem dX4_digest_216 : decode cX4_digest 216 = .ok (.getfield 241, 3) := by decide +kernel
theorem dX4_digest_219 : decode cX4_digest 219 = .ok (.lreturn, 1) := by decide +kernel
