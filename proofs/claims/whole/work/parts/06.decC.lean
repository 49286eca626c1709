theorem dX4_init_0 : decode cX4_init 0 = .ok (.aload_n 0, 1) := by decide +kernel
theorem dX4_init_1 : decode cX4_init 1 = .ok (.invokespecial 1, 3) := by decide +kernel
theorem dX4_init_4 : decode cX4_init 4 = .ok (.aload_n 0, 1) := by decide +kernel
theorem dX4_init_5 : decode cX4_init 5 = .ok (.sipush 904, 3) := by decide +kernel
theorem dX4_init_8 : decode cX4_init 8 = .ok (.newarray .int, 2) := by decide +kernel
theorem dX4_init_10 : decode cX4_init 10 = .ok (.putfield 7, 3) := by decide +kernel
theorem dX4_init_13 : decode cX4_init 13 = .ok (.aload_n 0, 1) := by decide +kernel
theorem dX4_init_14 : decode cX4_init 14 = .ok (.sipush 5424, 3) := by decide +kernel
theorem dX4_init_17 : decode cX4_init 17 = .ok (.newarray .int, 2) := by decide +kernel
theorem dX4_init_19 : decode cX4_init 19 = .ok (.putfield 13, 3) := by decide +kernel
theorem dX4_init_22 : decode cX4_init 22 = .ok (.aload_n 0, 1) := by decide +kernel
theorem dX4_init_23 : decode cX4_init 23 = .ok (.sipush 1808, 3) := by decide +kernel
theorem dX4_init_26 : decode cX4_init 26 = .ok (.newarray .int, 2) := by decide +kernel
theorem dX4_init_28 : decode cX4_init 28 = .ok (.putfield 16, 3) := by decide +kernel
theorem dX4_init_31 : decode cX4_init 31 = .ok (.aload_n 0, 1) := by decide +kernel
theorem dX4_init_32 : decode cX4_init 32 = .ok (.iconst 2, 1) := by decide +kernel
theorem dX4_init_33 : decode cX4_init 33 = .ok (.newarray .boolean, 2) := by decide +kernel
theorem dX4_init_35 : decode cX4_init 35 = .ok (.putfield 19, 3) := by decide +kernel
theorem dX4_init_38 : decode cX4_init 38 = .ok (.aload_n 0, 1) := by decide +kernel
theorem dX4_init_39 : decode cX4_init 39 = .ok (.bipush 60, 2) := by decide +kernel
theorem dX4_init_41 : decode cX4_init 41 = .ok (.newarray .int, 2) := by decide +kernel
theorem dX4_init_43 : decode cX4_init 43 = .ok (.putfield 23, 3) := by decide +kernel
theorem dX4_init_46 : decode cX4_init 46 = .ok (.aload_n 0, 1) := by decide +kernel
theorem dX4_init_47 : decode cX4_init 47 = .ok (.sipush 144, 3) := by decide +kernel
theorem dX4_init_50 : decode cX4_init 50 = .ok (.newarray .int, 2) := by decide +kernel
theorem dX4_init_52 : decode cX4_init 52 = .ok (.putfield 26, 3) := by decide +kernel
theorem dX4_init_55 : decode cX4_init 55 = .ok (.aload_n 0, 1) := by decide +kernel
theorem dX4_init_56 : decode cX4_init 56 = .ok (.sipush 144, 3) := by decide +kernel
theorem dX4_init_59 : decode cX4_init 59 = .ok (.newarray .int, 2) := by decide +kernel
theorem dX4_init_61 : decode cX4_init 61 = .ok (.putfield 29, 3) := by decide +kernel
theorem dX4_init_64 : decode cX4_init 64 = .ok (.aload_n 0, 1) := by decide +kernel
theorem dX4_init_65 : decode cX4_init 65 = .ok (.sipush 144, 3) := by decide +kernel
theorem dX4_init_68 : decode cX4_init 68 = .ok (.newarray .int, 2) := by decide +kernel
theorem dX4_init_70 : decode cX4_init 70 = .ok (.putfield 32, 3) := by decide +kernel
theorem dX4_init_73 : decode cX4_init 73 = .ok (.aload_n 0, 1) := by decide +kernel
theorem dX4_init_74 : decode cX4_init 74 = .ok (.iconst 0, 1) := by decide +kernel
theorem dX4_init_75 : decode cX4_init 75 = .ok (.putfield 35, 3) := by decide +kernel
theorem dX4_init_78 : decode cX4_init 78 = .ok (.aload_n 0, 1) := by decide +kernel
theorem dX4_init_79 : decode cX4_init 79 = .ok (.getfield 7, 3) := by decide +kernel
theorem dX4_init_82 : decode cX4_init 82 = .ok (.iconst 0, 1) := by decide +kernel
theorem dX4_init_83 : decode cX4_init 83 = .ok (.bipush 12, 2) := by decide +kernel
theorem dX4_init_85 : decode cX4_init 85 = .ok (.iastore, 1) := by decide +kernel
theorem dX4_init_86 : decode cX4_init 86 = .ok (.aload_n 0, 1) := by decide +kernel
theorem dX4_init_87 : decode cX4_init 87 = .ok (.getfield 7, 3) := by decide +kernel
theorem dX4_init_90 : decode cX4_init 90 = .ok (.bipush 6, 2) := by decide +kernel
theorem dX4_init_92 : decode cX4_init 92 = .ok (.iconst 1, 1) := by decide +kernel
theorem dX4_init_93 : decode cX4_init 93 = .ok (.iastore, 1) := by decide +kernel
theorem dX4_init_94 : decode cX4_init 94 = .ok (.aload_n 0, 1) := by decide +kernel
theorem dX4_init_95 : decode cX4_init 95 = .ok (.getfield 7, 3) := by decide +kernel
theorem dX4_init_98 : decode cX4_init 98 = .ok (.bipush 7, 2) := by decide +kernel
theorem dX4_init_100 : decode cX4_init 100 = .ok (.iconst 1, 1) := by decide +kernel
theorem dX4_init_101 : decode cX4_init 101 = .ok (.iastore, 1) := by decide +kernel
theorem dX4_init_102 : decode cX4_init 102 = .ok (.aload_n 0, 1) := by decide +kernel
theorem dX4_init_103 : decode cX4_init 103 = .ok (.getfield 7, 3) := by decide +kernel
theorem dX4_init_106 : decode cX4_init 106 = .ok (.bipush 8, 2) := by decide +kernel
theorem dX4_init_108 : decode cX4_init 108 = .ok (.iconst 2, 1) := by decide +kernel
theorem dX4_init_109 : decode cX4_init 109 = .ok (.iastore, 1) := by decide +kernel
theorem dX4_init_110 : decode cX4_init 110 = .ok (.iconst 0, 1) := by decide +kernel
theorem dX4_init_111 : decode cX4_init 111 = .ok (.istore_n 1, 1) := by decide +kernel
theorem dX4_init_112 : decode cX4_init 112 = .ok (.iload_n 1, 1) := by decide +kernel
theorem dX4_init_113 : decode cX4_init 113 = .ok (.iconst 3, 1) := by decide +kernel
theorem dX4_init_114 : decode cX4_init 114 = .ok (.if_icmp .ge 39, 3) := by decide +kernel
theorem dX4_init_117 : decode cX4_init 117 = .ok (.aload_n 0, 1) := by decide +kernel
theorem dX4_init_118 : decode cX4_init 118 = .ok (.getfield 7, 3) := by decide +kernel
theorem dX4_init_121 : decode cX4_init 121 = .ok (.bipush 9, 2) := by decide +kernel
theorem dX4_init_123 : decode cX4_init 123 = .ok (.iconst 2, 1) := by decide +kernel
theorem dX4_init_124 : decode cX4_init 124 = .ok (.iload_n 1, 1) := by decide +kernel
theorem dX4_init_125 : decode cX4_init 125 = .ok (.imul, 1) := by decide +kernel
theorem dX4_init_126 : decode cX4_init 126 = .ok (.iadd, 1) := by decide +kernel
theorem dX4_init_127 : decode cX4_init 127 = .ok (.iload_n 1, 1) := by decide +kernel
theorem dX4_init_128 : decode cX4_init 128 = .ok (.iconst 1, 1) := by decide +kernel
theorem dX4_init_129 : decode cX4_init 129 = .ok (.iadd, 1) := by decide +kernel
theorem dX4_init_130 : decode cX4_init 130 = .ok (.iastore, 1) := by decide +kernel
theorem dX4_init_131 : decode cX4_init 131 = .ok (.aload_n 0, 1) := by decide +kernel
theorem dX4_init_132 : decode cX4_init 132 = .ok (.getfield 7, 3) := by decide +kernel
theorem dX4_init_135 : decode cX4_init 135 = .ok (.bipush 9, 2) := by decide +kernel
theorem dX4_init_137 : decode cX4_init 137 = .ok (.iconst 2, 1) := by decide +kernel
theorem dX4_init_138 : decode cX4_init 138 = .ok (.iload_n 1, 1) := by decide +kernel
theorem dX4_init_139 : decode cX4_init 139 = .ok (.imul, 1) := by decide +kernel
theorem dX4_init_140 : decode cX4_init 140 = .ok (.iadd, 1) := by decide +kernel
theorem dX4_init_141 : decode cX4_init 141 = .ok (.iconst 1, 1) := by decide +kernel
theorem dX4_init_142 : decode cX4_init 142 = .ok (.iadd, 1) := by decide +kernel
theorem dX4_init_143 : decode cX4_init 143 = .ok (.sipush 2000, 3) := by decide +kernel
theorem dX4_init_146 : decode cX4_init 146 = .ok (.iastore, 1) := by decide +kernel
theorem dX4_init_147 : decode cX4_init 147 = .ok (.iinc 1 1, 3) := by decide +kernel
theorem dX4_init_150 : decode cX4_init 150 = .ok (.goto (-38), 3) := by decide +kernel
theorem dX4_init_153 : decode cX4_init 153 = .ok (.return_, 1) := by decide +kernel
theorem dX4_thrown_0 : decode cX4_thrown 0 = .ok (.aload_n 0, 1) := by decide +kernel
theorem dX4_thrown_1 : decode cX4_thrown 1 = .ok (.getfield 35, 3) := by decide +kernel
theorem dX4_thrown_4 : decode cX4_thrown 4 = .ok (.ireturn, 1) := by decide +kernel
theorem dX4_in_0 : decode cX4_in 0 = .ok (.iload_n 0, 1) := by decide +kernel
theorem dX4_in_1 : decode cX4_in 1 = .ok (.iload_n 1, 1) := by decide +kernel
theorem dX4_in_2 : decode cX4_in 2 = .ok (.if_icmp .lt 12, 3) := by decide +kernel
theorem dX4_in_5 : decode cX4_in 5 = .ok (.iload_n 0, 1) := by decide +kernel
theorem dX4_in_6 : decode cX4_in 6 = .ok (.iload_n 2, 1) := by decide +kernel
theorem dX4_in_7 : decode cX4_in 7 = .ok (.if_icmp .gt 7, 3) := by decide +kernel
theorem dX4_in_10 : decode cX4_in 10 = .ok (.iconst 1, 1) := by decide +kernel
theorem dX4_in_11 : decode cX4_in 11 = .ok (.goto 4, 3) := by decide +kernel
theorem dX4_in_14 : decode cX4_in 14 = .ok (.iconst 0, 1) := by decide +kernel
theorem dX4_in_15 : decode cX4_in 15 = .ok (.ireturn, 1) := by decide +kernel
theorem dX4_fails_0 : decode cX4_fails 0 = .ok (.aload_n 0, 1) := by decide +kernel
theorem dX4_fails_1 : decode cX4_fails 1 = .ok (.iload_n 1, 1) := by decide +kernel
theorem dX4_fails_2 : decode cX4_fails 2 = .ok (.putfield 35, 3) := by decide +kernel
theorem dX4_fails_5 : decode cX4_fails 5 = .ok (.iconst 0, 1) := by decide +kernel
theorem dX4_fails_6 : decode cX4_fails 6 = .ok (.ireturn, 1) := by decide +kernel
theorem dX4_abs_0 : decode cX4_abs 0 = .ok (.iload_n 0, 1) := by decide +kernel
theorem dX4_abs_1 : decode cX4_abs 1 = .ok (.ifCond .ge 8, 3) := by decide +kernel
theorem dX4_abs_4 : decode cX4_abs 4 = .ok (.iload_n 0, 1) := by decide +kernel
theorem dX4_abs_5 : decode cX4_abs 5 = .ok (.ineg, 1) := by decide +kernel
theorem dX4_abs_6 : decode cX4_abs 6 = .ok (.goto 4, 3) := by decide +kernel
theorem dX4_abs_9 : decode cX4_abs 9 = .ok (.iload_n 0, 1) := by decide +kernel
theorem dX4_abs_10 : decode cX4_abs 10 = .ok (.ireturn, 1) := by decide +kernel
theorem dX4_saves_0 : decode cX4_saves 0 = .ok (.aload_n 0, 1) := by decide +kernel
theorem dX4_saves_1 : decode cX4_saves 1 = .ok (.getfield 39, 3) := by decide +kernel
theorem dX4_saves_4 : decode cX4_saves 4 = .ok (.bipush 6, 2) := by decide +kernel
theorem dX4_saves_6 : decode cX4_saves 6 = .ok (.if_icmp .ne 44, 3) := by decide +kernel
theorem dX4_saves_9 : decode cX4_saves 9 = .ok (.iconst 0, 1) := by decide +kernel
theorem dX4_saves_10 : decode cX4_saves 10 = .ok (.istore_n 1, 1) := by decide +kernel
theorem dX4_saves_11 : decode cX4_saves 11 = .ok (.iload_n 1, 1) := by decide +kernel
theorem dX4_saves_12 : decode cX4_saves 12 = .ok (.sipush 4520, 3) := by decide +kernel
theorem dX4_saves_15 : decode cX4_saves 15 = .ok (.if_icmp .ge 25, 3) := by decide +kernel
theorem dX4_saves_18 : decode cX4_saves 18 = .ok (.aload_n 0, 1) := by decide +kernel
theorem dX4_saves_19 : decode cX4_saves 19 = .ok (.getfield 13, 3) := by decide +kernel
theorem dX4_saves_22 : decode cX4_saves 22 = .ok (.iload_n 1, 1) := by decide +kernel
theorem dX4_saves_23 : decode cX4_saves 23 = .ok (.aload_n 0, 1) := by decide +kernel
theorem dX4_saves_24 : decode cX4_saves 24 = .ok (.getfield 13, 3) := by decide +kernel
theorem dX4_saves_27 : decode cX4_saves 27 = .ok (.iload_n 1, 1) := by decide +kernel
theorem dX4_saves_28 : decode cX4_saves 28 = .ok (.sipush 904, 3) := by decide +kernel
theorem dX4_saves_31 : decode cX4_saves 31 = .ok (.iadd, 1) := by decide +kernel
theorem dX4_saves_32 : decode cX4_saves 32 = .ok (.iaload, 1) := by decide +kernel
theorem dX4_saves_33 : decode cX4_saves 33 = .ok (.iastore, 1) := by decide +kernel
theorem dX4_saves_34 : decode cX4_saves 34 = .ok (.iinc 1 1, 3) := by decide +kernel
theorem dX4_saves_37 : decode cX4_saves 37 = .ok (.goto (-26), 3) := by decide +kernel
theorem dX4_saves_40 : decode cX4_saves 40 = .ok (.aload_n 0, 1) := by decide +kernel
theorem dX4_saves_41 : decode cX4_saves 41 = .ok (.dup, 1) := by decide +kernel
theorem dX4_saves_42 : decode cX4_saves 42 = .ok (.getfield 39, 3) := by decide +kernel
theorem dX4_saves_45 : decode cX4_saves 45 = .ok (.iconst 1, 1) := by decide +kernel
theorem dX4_saves_46 : decode cX4_saves 46 = .ok (.isub, 1) := by decide +kernel
theorem dX4_saves_47 : decode cX4_saves 47 = .ok (.putfield 39, 3) := by decide +kernel
theorem dX4_saves_50 : decode cX4_saves 50 = .ok (.iconst 0, 1) := by decide +kernel
theorem dX4_saves_51 : decode cX4_saves 51 = .ok (.istore_n 1, 1) := by decide +kernel
theorem dX4_saves_52 : decode cX4_saves 52 = .ok (.iload_n 1, 1) := by decide +kernel
theorem dX4_saves_53 : decode cX4_saves 53 = .ok (.sipush 904, 3) := by decide +kernel
theorem dX4_saves_56 : decode cX4_saves 56 = .ok (.if_icmp .ge 30, 3) := by decide +kernel
theorem dX4_saves_59 : decode cX4_saves 59 = .ok (.aload_n 0, 1) := by decide +kernel
theorem dX4_saves_60 : decode cX4_saves 60 = .ok (.getfield 13, 3) := by decide +kernel
theorem dX4_saves_63 : decode cX4_saves 63 = .ok (.sipush 904, 3) := by decide +kernel
theorem dX4_saves_66 : decode cX4_saves 66 = .ok (.aload_n 0, 1) := by decide +kernel
theorem dX4_saves_67 : decode cX4_saves 67 = .ok (.getfield 39, 3) := by decide +kernel
theorem dX4_saves_70 : decode cX4_saves 70 = .ok (.imul, 1) := by decide +kernel
theorem dX4_saves_71 : decode cX4_saves 71 = .ok (.iload_n 1, 1) := by decide +kernel
theorem dX4_saves_72 : decode cX4_saves 72 = .ok (.iadd, 1) := by decide +kernel
theorem dX4_saves_73 : decode cX4_saves 73 = .ok (.aload_n 0, 1) := by decide +kernel
theorem dX4_saves_74 : decode cX4_saves 74 = .ok (.getfield 7, 3) := by decide +kernel
theorem dX4_saves_77 : decode cX4_saves 77 = .ok (.iload_n 1, 1) := by decide +kernel
theorem dX4_saves_78 : decode cX4_saves 78 = .ok (.iaload, 1) := by decide +kernel
theorem dX4_saves_79 : decode cX4_saves 79 = .ok (.iastore, 1) := by decide +kernel
theorem dX4_saves_80 : decode cX4_saves 80 = .ok (.iinc 1 1, 3) := by decide +kernel
theorem dX4_saves_83 : decode cX4_saves 83 = .ok (.goto (-31), 3) := by decide +kernel
theorem dX4_saves_86 : decode cX4_saves 86 = .ok (.aload_n 0, 1) := by decide +kernel
theorem dX4_saves_87 : decode cX4_saves 87 = .ok (.dup, 1) := by decide +kernel
theorem dX4_saves_88 : decode cX4_saves 88 = .ok (.getfield 39, 3) := by decide +kernel
theorem dX4_saves_91 : decode cX4_saves 91 = .ok (.iconst 1, 1) := by decide +kernel
theorem dX4_saves_92 : decode cX4_saves 92 = .ok (.iadd, 1) := by decide +kernel
theorem dX4_saves_93 : decode cX4_saves 93 = .ok (.putfield 39, 3) := by decide +kernel
theorem dX4_saves_96 : decode cX4_saves 96 = .ok (.return_, 1) := by decide +kernel
theorem dX4_isNail_0 : decode cX4_isNail 0 = .ok (.iload_n 1, 1) := by decide +kernel
theorem dX4_isNail_1 : decode cX4_isNail 1 = .ok (.iconst 0, 1) := by decide +kernel
theorem dX4_isNail_2 : decode cX4_isNail 2 = .ok (.aload_n 0, 1) := by decide +kernel
theorem dX4_isNail_3 : decode cX4_isNail 3 = .ok (.getfield 7, 3) := by decide +kernel
theorem dX4_isNail_6 : decode cX4_isNail 6 = .ok (.iconst 0, 1) := by decide +kernel
theorem dX4_isNail_7 : decode cX4_isNail 7 = .ok (.iaload, 1) := by decide +kernel
theorem dX4_isNail_8 : decode cX4_isNail 8 = .ok (.iconst 1, 1) := by decide +kernel
theorem dX4_isNail_9 : decode cX4_isNail 9 = .ok (.isub, 1) := by decide +kernel
theorem dX4_isNail_10 : decode cX4_isNail 10 = .ok (.invokestatic 42, 3) := by decide +kernel
theorem dX4_isNail_13 : decode cX4_isNail 13 = .ok (.ireturn, 1) := by decide +kernel
theorem dX4_isSpool_0 : decode cX4_isSpool 0 = .ok (.iload_n 0, 1) := by decide +kernel
theorem dX4_isSpool_1 : decode cX4_isSpool 1 = .ok (.iconst 0, 1) := by decide +kernel
theorem dX4_isSpool_2 : decode cX4_isSpool 2 = .ok (.iconst 2, 1) := by decide +kernel
theorem dX4_isSpool_3 : decode cX4_isSpool 3 = .ok (.invokestatic 42, 3) := by decide +kernel
theorem dX4_isSpool_6 : decode cX4_isSpool 6 = .ok (.ireturn, 1) := by decide +kernel
theorem dX4_isSquare_0 : decode cX4_isSquare 0 = .ok (.iload_n 0, 1) := by decide +kernel
theorem dX4_isSquare_1 : decode cX4_isSquare 1 = .ok (.iconst 0, 1) := by decide +kernel
theorem dX4_isSquare_2 : decode cX4_isSquare 2 = .ok (.bipush 11, 2) := by decide +kernel
theorem dX4_isSquare_4 : decode cX4_isSquare 4 = .ok (.invokestatic 42, 3) := by decide +kernel
theorem dX4_isSquare_7 : decode cX4_isSquare 7 = .ok (.ifCond .eq 17, 3) := by decide +kernel
theorem dX4_isSquare_10 : decode cX4_isSquare 10 = .ok (.iload_n 1, 1) := by decide +kernel
theorem dX4_isSquare_11 : decode cX4_isSquare 11 = .ok (.iconst 0, 1) := by decide +kernel
theorem dX4_isSquare_12 : decode cX4_isSquare 12 = .ok (.bipush 11, 2) := by decide +kernel
theorem dX4_isSquare_14 : decode cX4_isSquare 14 = .ok (.invokestatic 42, 3) := by decide +kernel
theorem dX4_isSquare_17 : decode cX4_isSquare 17 = .ok (.ifCond .eq 7, 3) := by decide +kernel
theorem dX4_isSquare_20 : decode cX4_isSquare 20 = .ok (.iconst 1, 1) := by decide +kernel
theorem dX4_isSquare_21 : decode cX4_isSquare 21 = .ok (.goto 4, 3) := by decide +kernel
theorem dX4_isSquare_24 : decode cX4_isSquare 24 = .ok (.iconst 0, 1) := by decide +kernel
theorem dX4_isSquare_25 : decode cX4_isSquare 25 = .ok (.ireturn, 1) := by decide +kernel
theorem dX4_quarter_0 : decode cX4_quarter 0 = .ok (.iload_n 0, 1) := by decide +kernel
theorem dX4_quarter_1 : decode cX4_quarter 1 = .ok (.tableswitch 57 0 5 #[39, 42, 45, 48, 51, 54], 39) := by decide +kernel
theorem dX4_quarter_40 : decode cX4_quarter 40 = .ok (.bipush 60, 2) := by decide +kernel
theorem dX4_quarter_42 : decode cX4_quarter 42 = .ok (.ireturn, 1) := by decide +kernel
theorem dX4_quarter_43 : decode cX4_quarter 43 = .ok (.bipush 58, 2) := by decide +kernel
theorem dX4_quarter_45 : decode cX4_quarter 45 = .ok (.ireturn, 1) := by decide +kernel
theorem dX4_quarter_46 : decode cX4_quarter 46 = .ok (.bipush 52, 2) := by decide +kernel
theorem dX4_quarter_48 : decode cX4_quarter 48 = .ok (.ireturn, 1) := by decide +kernel
theorem dX4_quarter_49 : decode cX4_quarter 49 = .ok (.bipush 42, 2) := by decide +kernel
theorem dX4_quarter_51 : decode cX4_quarter 51 = .ok (.ireturn, 1) := by decide +kernel
theorem dX4_quarter_52 : decode cX4_quarter 52 = .ok (.bipush 30, 2) := by decide +kernel
theorem dX4_quarter_54 : decode cX4_quarter 54 = .ok (.ireturn, 1) := by decide +kernel
theorem dX4_quarter_55 : decode cX4_quarter 55 = .ok (.bipush 16, 2) := by decide +kernel
theorem dX4_quarter_57 : decode cX4_quarter 57 = .ok (.ireturn, 1) := by decide +kernel
theorem dX4_quarter_58 : decode cX4_quarter 58 = .ok (.iconst 0, 1) := by decide +kernel
theorem dX4_quarter_59 : decode cX4_quarter 59 = .ok (.ireturn, 1) := by decide +kernel
theorem dX4_ring_0 : decode cX4_ring 0 = .ok (.iload_n 0, 1) := by decide +kernel
theorem dX4_ring_1 : decode cX4_ring 1 = .ok (.bipush 24, 2) := by decide +kernel
theorem dX4_ring_3 : decode cX4_ring 3 = .ok (.irem, 1) := by decide +kernel
theorem dX4_ring_4 : decode cX4_ring 4 = .ok (.istore_n 1, 1) := by decide +kernel
theorem dX4_ring_5 : decode cX4_ring 5 = .ok (.iload_n 1, 1) := by decide +kernel
theorem dX4_ring_6 : decode cX4_ring 6 = .ok (.bipush 12, 2) := by decide +kernel
theorem dX4_ring_8 : decode cX4_ring 8 = .ok (.if_icmp .le 10, 3) := by decide +kernel
theorem dX4_ring_11 : decode cX4_ring 11 = .ok (.bipush 24, 2) := by decide +kernel
theorem dX4_ring_13 : decode cX4_ring 13 = .ok (.iload_n 1, 1) := by decide +kernel
theorem dX4_ring_14 : decode cX4_ring 14 = .ok (.isub, 1) := by decide +kernel
theorem dX4_ring_15 : decode cX4_ring 15 = .ok (.goto 4, 3) := by decide +kernel
theorem dX4_ring_18 : decode cX4_ring 18 = .ok (.iload_n 1, 1) := by decide +kernel
theorem dX4_ring_19 : decode cX4_ring 19 = .ok (.istore_n 2, 1) := by decide +kernel
theorem dX4_ring_20 : decode cX4_ring 20 = .ok (.iload_n 2, 1) := by decide +kernel
theorem dX4_ring_21 : decode cX4_ring 21 = .ok (.bipush 6, 2) := by decide +kernel
theorem dX4_ring_23 : decode cX4_ring 23 = .ok (.if_icmp .gt 10, 3) := by decide +kernel
theorem dX4_ring_26 : decode cX4_ring 26 = .ok (.iload_n 2, 1) := by decide +kernel
theorem dX4_ring_27 : decode cX4_ring 27 = .ok (.invokestatic 46, 3) := by decide +kernel
theorem dX4_ring_30 : decode cX4_ring 30 = .ok (.goto 11, 3) := by decide +kernel
theorem dX4_ring_33 : decode cX4_ring 33 = .ok (.bipush 12, 2) := by decide +kernel
theorem dX4_ring_35 : decode cX4_ring 35 = .ok (.iload_n 2, 1) := by decide +kernel
theorem dX4_ring_36 : decode cX4_ring 36 = .ok (.isub, 1) := by decide +kernel
theorem dX4_ring_37 : decode cX4_ring 37 = .ok (.invokestatic 46, 3) := by decide +kernel
theorem dX4_ring_40 : decode cX4_ring 40 = .ok (.ineg, 1) := by decide +kernel
theorem dX4_ring_41 : decode cX4_ring 41 = .ok (.ireturn, 1) := by decide +kernel
theorem dX4_x_0 : decode cX4_x 0 = .ok (.bipush 60, 2) := by decide +kernel
theorem dX4_x_2 : decode cX4_x 2 = .ok (.iload_n 1, 1) := by decide +kernel
theorem dX4_x_3 : decode cX4_x 3 = .ok (.bipush 24, 2) := by decide +kernel
theorem dX4_x_5 : decode cX4_x 5 = .ok (.imul, 1) := by decide +kernel
theorem dX4_x_6 : decode cX4_x 6 = .ok (.aload_n 0, 1) := by decide +kernel
theorem dX4_x_7 : decode cX4_x 7 = .ok (.getfield 7, 3) := by decide +kernel
theorem dX4_x_10 : decode cX4_x 10 = .ok (.iconst 0, 1) := by decide +kernel
theorem dX4_x_11 : decode cX4_x 11 = .ok (.iaload, 1) := by decide +kernel
theorem dX4_x_12 : decode cX4_x 12 = .ok (.idiv, 1) := by decide +kernel
theorem dX4_x_13 : decode cX4_x 13 = .ok (.invokestatic 50, 3) := by decide +kernel
theorem dX4_x_16 : decode cX4_x 16 = .ok (.iadd, 1) := by decide +kernel
theorem dX4_x_17 : decode cX4_x 17 = .ok (.ireturn, 1) := by decide +kernel
theorem dX4_y_0 : decode cX4_y 0 = .ok (.bipush 60, 2) := by decide +kernel
theorem dX4_y_2 : decode cX4_y 2 = .ok (.iload_n 1, 1) := by decide +kernel
theorem dX4_y_3 : decode cX4_y 3 = .ok (.bipush 24, 2) := by decide +kernel
theorem dX4_y_5 : decode cX4_y 5 = .ok (.imul, 1) := by decide +kernel
theorem dX4_y_6 : decode cX4_y 6 = .ok (.aload_n 0, 1) := by decide +kernel
theorem dX4_y_7 : decode cX4_y 7 = .ok (.getfield 7, 3) := by decide +kernel
theorem dX4_y_10 : decode cX4_y 10 = .ok (.iconst 0, 1) := by decide +kernel
theorem dX4_y_11 : decode cX4_y 11 = .ok (.iaload, 1) := by decide +kernel
theorem dX4_y_12 : decode cX4_y 12 = .ok (.idiv, 1) := by decide +kernel
theorem dX4_y_13 : decode cX4_y 13 = .ok (.bipush 18, 2) := by decide +kernel
theorem dX4_y_15 : decode cX4_y 15 = .ok (.iadd, 1) := by decide +kernel
theorem dX4_y_16 : decode cX4_y 16 = .ok (.invokestatic 50, 3) := by decide +kernel
theorem dX4_y_19 : decode cX4_y 19 = .ok (.iadd, 1) := by decide +kernel
theorem dX4_y_20 : decode cX4_y 20 = .ok (.ireturn, 1) := by decide +kernel
theorem dX4_root_0 : decode cX4_root 0 = .ok (.iconst 0, 1) := by decide +kernel
theorem dX4_root_1 : decode cX4_root 1 = .ok (.istore_n 1, 1) := by decide +kernel
theorem dX4_root_2 : decode cX4_root 2 = .ok (.iload_n 1, 1) := by decide +kernel
theorem dX4_root_3 : decode cX4_root 3 = .ok (.iconst 1, 1) := by decide +kernel
theorem dX4_root_4 : decode cX4_root 4 = .ok (.iadd, 1) := by decide +kernel
theorem dX4_root_5 : decode cX4_root 5 = .ok (.iload_n 1, 1) := by decide +kernel
theorem dX4_root_6 : decode cX4_root 6 = .ok (.iconst 1, 1) := by decide +kernel
theorem dX4_root_7 : decode cX4_root 7 = .ok (.iadd, 1) := by decide +kernel
theorem dX4_root_8 : decode cX4_root 8 = .ok (.imul, 1) := by decide +kernel
theorem dX4_root_9 : decode cX4_root 9 = .ok (.iload_n 0, 1) := by decide +kernel
theorem dX4_root_10 : decode cX4_root 10 = .ok (.if_icmp .gt 9, 3) := by decide +kernel
theorem dX4_root_13 : decode cX4_root 13 = .ok (.iinc 1 1, 3) := by decide +kernel
theorem dX4_root_16 : decode cX4_root 16 = .ok (.goto (-14), 3) := by decide +kernel
theorem dX4_root_19 : decode cX4_root 19 = .ok (.iload_n 1, 1) := by decide +kernel
theorem dX4_root_20 : decode cX4_root 20 = .ok (.ireturn, 1) := by decide +kernel
theorem dX4_lengthOf_0 : decode cX4_lengthOf 0 = .ok (.aload_n 0, 1) := by decide +kernel
theorem dX4_lengthOf_1 : decode cX4_lengthOf 1 = .ok (.iload_n 1, 1) := by decide +kernel
theorem dX4_lengthOf_2 : decode cX4_lengthOf 2 = .ok (.invokevirtual 53, 3) := by decide +kernel
theorem dX4_lengthOf_5 : decode cX4_lengthOf 5 = .ok (.aload_n 0, 1) := by decide +kernel
theorem dX4_lengthOf_6 : decode cX4_lengthOf 6 = .ok (.iload_n 2, 1) := by decide +kernel
theorem dX4_lengthOf_7 : decode cX4_lengthOf 7 = .ok (.invokevirtual 53, 3) := by decide +kernel
theorem dX4_lengthOf_10 : decode cX4_lengthOf 10 = .ok (.isub, 1) := by decide +kernel
theorem dX4_lengthOf_11 : decode cX4_lengthOf 11 = .ok (.istore_n 3, 1) := by decide +kernel
theorem dX4_lengthOf_12 : decode cX4_lengthOf 12 = .ok (.aload_n 0, 1) := by decide +kernel
theorem dX4_lengthOf_13 : decode cX4_lengthOf 13 = .ok (.iload_n 1, 1) := by decide +kernel
theorem dX4_lengthOf_14 : decode cX4_lengthOf 14 = .ok (.invokevirtual 56, 3) := by decide +kernel
theorem dX4_lengthOf_17 : decode cX4_lengthOf 17 = .ok (.aload_n 0, 1) := by decide +kernel
theorem dX4_lengthOf_18 : decode cX4_lengthOf 18 = .ok (.iload_n 2, 1) := by decide +kernel
theorem dX4_lengthOf_19 : decode cX4_lengthOf 19 = .ok (.invokevirtual 56, 3) := by decide +kernel
theorem dX4_lengthOf_22 : decode cX4_lengthOf 22 = .ok (.isub, 1) := by decide +kernel
theorem dX4_lengthOf_23 : decode cX4_lengthOf 23 = .ok (.istore 4, 2) := by decide +kernel
theorem dX4_lengthOf_25 : decode cX4_lengthOf 25 = .ok (.iload_n 3, 1) := by decide +kernel
theorem dX4_lengthOf_26 : decode cX4_lengthOf 26 = .ok (.iload_n 3, 1) := by decide +kernel
theorem dX4_lengthOf_27 : decode cX4_lengthOf 27 = .ok (.imul, 1) := by decide +kernel
theorem dX4_lengthOf_28 : decode cX4_lengthOf 28 = .ok (.iload 4, 2) := by decide +kernel
theorem dX4_lengthOf_30 : decode cX4_lengthOf 30 = .ok (.iload 4, 2) := by decide +kernel
theorem dX4_lengthOf_32 : decode cX4_lengthOf 32 = .ok (.imul, 1) := by decide +kernel
theorem dX4_lengthOf_33 : decode cX4_lengthOf 33 = .ok (.iadd, 1) := by decide +kernel
theorem dX4_lengthOf_34 : decode cX4_lengthOf 34 = .ok (.invokestatic 59, 3) := by decide +kernel
theorem dX4_lengthOf_37 : decode cX4_lengthOf 37 = .ok (.ireturn, 1) := by decide +kernel
theorem dX4_cell_0 : decode cX4_cell 0 = .ok (.iload_n 0, 1) := by decide +kernel
theorem dX4_cell_1 : decode cX4_cell 1 = .ok (.bipush 120, 2) := by decide +kernel
theorem dX4_cell_3 : decode cX4_cell 3 = .ok (.if_icmp .ne 8, 3) := by decide +kernel
theorem dX4_cell_6 : decode cX4_cell 6 = .ok (.bipush 11, 2) := by decide +kernel
theorem dX4_cell_8 : decode cX4_cell 8 = .ok (.goto 7, 3) := by decide +kernel
theorem dX4_cell_11 : decode cX4_cell 11 = .ok (.iload_n 0, 1) := by decide +kernel
theorem dX4_cell_12 : decode cX4_cell 12 = .ok (.bipush 10, 2) := by decide +kernel
theorem dX4_cell_14 : decode cX4_cell 14 = .ok (.idiv, 1) := by decide +kernel
theorem dX4_cell_15 : decode cX4_cell 15 = .ok (.ireturn, 1) := by decide +kernel
theorem dX4_crosses_0 : decode cX4_crosses 0 = .ok (.bipush 12, 2) := by decide +kernel
theorem dX4_crosses_2 : decode cX4_crosses 2 = .ok (.iload_n 2, 1) := by decide +kernel
theorem dX4_crosses_3 : decode cX4_crosses 3 = .ok (.invokestatic 62, 3) := by decide +kernel
theorem dX4_crosses_6 : decode cX4_crosses 6 = .ok (.imul, 1) := by decide +kernel
theorem dX4_crosses_7 : decode cX4_crosses 7 = .ok (.iload_n 1, 1) := by decide +kernel
theorem dX4_crosses_8 : decode cX4_crosses 8 = .ok (.invokestatic 62, 3) := by decide +kernel
theorem dX4_crosses_11 : decode cX4_crosses 11 = .ok (.iadd, 1) := by decide +kernel
theorem dX4_crosses_12 : decode cX4_crosses 12 = .ok (.istore_n 3, 1) := by decide +kernel
theorem dX4_crosses_13 : decode cX4_crosses 13 = .ok (.aload_n 0, 1) := by decide +kernel
theorem dX4_crosses_14 : decode cX4_crosses 14 = .ok (.getfield 29, 3) := by decide +kernel
theorem dX4_crosses_17 : decode cX4_crosses 17 = .ok (.iload_n 3, 1) := by decide +kernel
theorem dX4_crosses_18 : decode cX4_crosses 18 = .ok (.iaload, 1) := by decide +kernel
theorem dX4_crosses_19 : decode cX4_crosses 19 = .ok (.aload_n 0, 1) := by decide +kernel
theorem dX4_crosses_20 : decode cX4_crosses 20 = .ok (.getfield 65, 3) := by decide +kernel
theorem dX4_crosses_23 : decode cX4_crosses 23 = .ok (.if_icmp .eq 33, 3) := by decide +kernel
theorem dX4_crosses_26 : decode cX4_crosses 26 = .ok (.aload_n 0, 1) := by decide +kernel
theorem dX4_crosses_27 : decode cX4_crosses 27 = .ok (.getfield 29, 3) := by decide +kernel
theorem dX4_crosses_30 : decode cX4_crosses 30 = .ok (.iload_n 3, 1) := by decide +kernel
theorem dX4_crosses_31 : decode cX4_crosses 31 = .ok (.aload_n 0, 1) := by decide +kernel
theorem dX4_crosses_32 : decode cX4_crosses 32 = .ok (.getfield 65, 3) := by decide +kernel
theorem dX4_crosses_35 : decode cX4_crosses 35 = .ok (.iastore, 1) := by decide +kernel
theorem dX4_crosses_36 : decode cX4_crosses 36 = .ok (.aload_n 0, 1) := by decide +kernel
theorem dX4_crosses_37 : decode cX4_crosses 37 = .ok (.getfield 26, 3) := by decide +kernel
theorem dX4_crosses_40 : decode cX4_crosses 40 = .ok (.aload_n 0, 1) := by decide +kernel
theorem dX4_crosses_41 : decode cX4_crosses 41 = .ok (.getfield 68, 3) := by decide +kernel
theorem dX4_crosses_44 : decode cX4_crosses 44 = .ok (.iload_n 3, 1) := by decide +kernel
theorem dX4_crosses_45 : decode cX4_crosses 45 = .ok (.iastore, 1) := by decide +kernel
theorem dX4_crosses_46 : decode cX4_crosses 46 = .ok (.aload_n 0, 1) := by decide +kernel
theorem dX4_crosses_47 : decode cX4_crosses 47 = .ok (.dup, 1) := by decide +kernel
theorem dX4_crosses_48 : decode cX4_crosses 48 = .ok (.getfield 68, 3) := by decide +kernel
theorem dX4_crosses_51 : decode cX4_crosses 51 = .ok (.iconst 1, 1) := by decide +kernel
theorem dX4_crosses_52 : decode cX4_crosses 52 = .ok (.iadd, 1) := by decide +kernel
theorem dX4_crosses_53 : decode cX4_crosses 53 = .ok (.putfield 68, 3) := by decide +kernel
theorem dX4_crosses_56 : decode cX4_crosses 56 = .ok (.return_, 1) := by decide +kernel
theorem dX4_laysCrossed_0 : decode cX4_laysCrossed 0 = .ok (.iload_n 1, 1) := by decide +kernel
theorem dX4_laysCrossed_1 : decode cX4_laysCrossed 1 = .ok (.iload_n 2, 1) := by decide +kernel
theorem dX4_laysCrossed_2 : decode cX4_laysCrossed 2 = .ok (.if_icmp .ge 7, 3) := by decide +kernel
theorem dX4_laysCrossed_5 : decode cX4_laysCrossed 5 = .ok (.iload_n 1, 1) := by decide +kernel
theorem dX4_laysCrossed_6 : decode cX4_laysCrossed 6 = .ok (.goto 4, 3) := by decide +kernel
theorem dX4_laysCrossed_9 : decode cX4_laysCrossed 9 = .ok (.iload_n 2, 1) := by decide +kernel
theorem dX4_laysCrossed_10 : decode cX4_laysCrossed 10 = .ok (.istore_n 3, 1) := by decide +kernel
theorem dX4_laysCrossed_11 : decode cX4_laysCrossed 11 = .ok (.iload_n 1, 1) := by decide +kernel
theorem dX4_laysCrossed_12 : decode cX4_laysCrossed 12 = .ok (.iload_n 2, 1) := by decide +kernel
theorem dX4_laysCrossed_13 : decode cX4_laysCrossed 13 = .ok (.if_icmp .ge 7, 3) := by decide +kernel
theorem dX4_laysCrossed_16 : decode cX4_laysCrossed 16 = .ok (.iload_n 2, 1) := by decide +kernel
theorem dX4_laysCrossed_17 : decode cX4_laysCrossed 17 = .ok (.goto 4, 3) := by decide +kernel
theorem dX4_laysCrossed_20 : decode cX4_laysCrossed 20 = .ok (.iload_n 1, 1) := by decide +kernel
theorem dX4_laysCrossed_21 : decode cX4_laysCrossed 21 = .ok (.istore 4, 2) := by decide +kernel
theorem dX4_laysCrossed_23 : decode cX4_laysCrossed 23 = .ok (.aload_n 0, 1) := by decide +kernel
theorem dX4_laysCrossed_24 : decode cX4_laysCrossed 24 = .ok (.iload 4, 2) := by decide +kernel
theorem dX4_laysCrossed_26 : decode cX4_laysCrossed 26 = .ok (.invokevirtual 53, 3) := by decide +kernel
theorem dX4_laysCrossed_29 : decode cX4_laysCrossed 29 = .ok (.aload_n 0, 1) := by decide +kernel
theorem dX4_laysCrossed_30 : decode cX4_laysCrossed 30 = .ok (.iload_n 3, 1) := by decide +kernel
theorem dX4_laysCrossed_31 : decode cX4_laysCrossed 31 = .ok (.invokevirtual 53, 3) := by decide +kernel
theorem dX4_laysCrossed_34 : decode cX4_laysCrossed 34 = .ok (.isub, 1) := by decide +kernel
theorem dX4_laysCrossed_35 : decode cX4_laysCrossed 35 = .ok (.istore 5, 2) := by decide +kernel
theorem dX4_laysCrossed_37 : decode cX4_laysCrossed 37 = .ok (.aload_n 0, 1) := by decide +kernel
theorem dX4_laysCrossed_38 : decode cX4_laysCrossed 38 = .ok (.iload 4, 2) := by decide +kernel
theorem dX4_laysCrossed_40 : decode cX4_laysCrossed 40 = .ok (.invokevirtual 56, 3) := by decide +kernel
theorem dX4_laysCrossed_43 : decode cX4_laysCrossed 43 = .ok (.aload_n 0, 1) := by decide +kernel
theorem dX4_laysCrossed_44 : decode cX4_laysCrossed 44 = .ok (.iload_n 3, 1) := by decide +kernel
theorem dX4_laysCrossed_45 : decode cX4_laysCrossed 45 = .ok (.invokevirtual 56, 3) := by decide +kernel
theorem dX4_laysCrossed_48 : decode cX4_laysCrossed 48 = .ok (.isub, 1) := by decide +kernel
theorem dX4_laysCrossed_49 : decode cX4_laysCrossed 49 = .ok (.istore 6, 2) := by decide +kernel
theorem dX4_laysCrossed_51 : decode cX4_laysCrossed 51 = .ok (.iload 5, 2) := by decide +kernel
theorem dX4_laysCrossed_53 : decode cX4_laysCrossed 53 = .ok (.invokestatic 71, 3) := by decide +kernel
theorem dX4_laysCrossed_56 : decode cX4_laysCrossed 56 = .ok (.iload 6, 2) := by decide +kernel
theorem dX4_laysCrossed_58 : decode cX4_laysCrossed 58 = .ok (.invokestatic 71, 3) := by decide +kernel
theorem dX4_laysCrossed_61 : decode cX4_laysCrossed 61 = .ok (.if_icmp .le 11, 3) := by decide +kernel
theorem dX4_laysCrossed_64 : decode cX4_laysCrossed 64 = .ok (.iload 5, 2) := by decide +kernel
theorem dX4_laysCrossed_66 : decode cX4_laysCrossed 66 = .ok (.invokestatic 71, 3) := by decide +kernel
theorem dX4_laysCrossed_69 : decode cX4_laysCrossed 69 = .ok (.goto 8, 3) := by decide +kernel
theorem dX4_laysCrossed_72 : decode cX4_laysCrossed 72 = .ok (.iload 6, 2) := by decide +kernel
theorem dX4_laysCrossed_74 : decode cX4_laysCrossed 74 = .ok (.invokestatic 71, 3) := by decide +kernel
theorem dX4_laysCrossed_77 : decode cX4_laysCrossed 77 = .ok (.istore 7, 2) := by decide +kernel
theorem dX4_laysCrossed_79 : decode cX4_laysCrossed 79 = .ok (.aload_n 0, 1) := by decide +kernel
theorem dX4_laysCrossed_80 : decode cX4_laysCrossed 80 = .ok (.dup, 1) := by decide +kernel
theorem dX4_laysCrossed_81 : decode cX4_laysCrossed 81 = .ok (.getfield 65, 3) := by decide +kernel
theorem dX4_laysCrossed_84 : decode cX4_laysCrossed 84 = .ok (.iconst 1, 1) := by decide +kernel
theorem dX4_laysCrossed_85 : decode cX4_laysCrossed 85 = .ok (.iadd, 1) := by decide +kernel
theorem dX4_laysCrossed_86 : decode cX4_laysCrossed 86 = .ok (.putfield 65, 3) := by decide +kernel
theorem dX4_laysCrossed_89 : decode cX4_laysCrossed 89 = .ok (.aload_n 0, 1) := by decide +kernel
theorem dX4_laysCrossed_90 : decode cX4_laysCrossed 90 = .ok (.iconst 0, 1) := by decide +kernel
theorem dX4_laysCrossed_91 : decode cX4_laysCrossed 91 = .ok (.putfield 68, 3) := by decide +kernel
theorem dX4_laysCrossed_94 : decode cX4_laysCrossed 94 = .ok (.iconst 0, 1) := by decide +kernel
theorem dX4_laysCrossed_95 : decode cX4_laysCrossed 95 = .ok (.istore 8, 2) := by decide +kernel
theorem dX4_laysCrossed_97 : decode cX4_laysCrossed 97 = .ok (.iload 8, 2) := by decide +kernel
theorem dX4_laysCrossed_99 : decode cX4_laysCrossed 99 = .ok (.iload 7, 2) := by decide +kernel
theorem dX4_laysCrossed_101 : decode cX4_laysCrossed 101 = .ok (.if_icmp .gt 41, 3) := by decide +kernel
theorem dX4_laysCrossed_104 : decode cX4_laysCrossed 104 = .ok (.aload_n 0, 1) := by decide +kernel
theorem dX4_laysCrossed_105 : decode cX4_laysCrossed 105 = .ok (.aload_n 0, 1) := by decide +kernel
theorem dX4_laysCrossed_106 : decode cX4_laysCrossed 106 = .ok (.iload_n 3, 1) := by decide +kernel
theorem dX4_laysCrossed_107 : decode cX4_laysCrossed 107 = .ok (.invokevirtual 53, 3) := by decide +kernel
theorem dX4_laysCrossed_110 : decode cX4_laysCrossed 110 = .ok (.iload 5, 2) := by decide +kernel
theorem dX4_laysCrossed_112 : decode cX4_laysCrossed 112 = .ok (.iload 8, 2) := by decide +kernel
theorem dX4_laysCrossed_114 : decode cX4_laysCrossed 114 = .ok (.imul, 1) := by decide +kernel
theorem dX4_laysCrossed_115 : decode cX4_laysCrossed 115 = .ok (.iload 7, 2) := by decide +kernel
theorem dX4_laysCrossed_117 : decode cX4_laysCrossed 117 = .ok (.idiv, 1) := by decide +kernel
theorem dX4_laysCrossed_118 : decode cX4_laysCrossed 118 = .ok (.iadd, 1) := by decide +kernel
theorem dX4_laysCrossed_119 : decode cX4_laysCrossed 119 = .ok (.aload_n 0, 1) := by decide +kernel
theorem dX4_laysCrossed_120 : decode cX4_laysCrossed 120 = .ok (.iload_n 3, 1) := by decide +kernel
theorem dX4_laysCrossed_121 : decode cX4_laysCrossed 121 = .ok (.invokevirtual 56, 3) := by decide +kernel
theorem dX4_laysCrossed_124 : decode cX4_laysCrossed 124 = .ok (.iload 6, 2) := by decide +kernel
theorem dX4_laysCrossed_126 : decode cX4_laysCrossed 126 = .ok (.iload 8, 2) := by decide +kernel
theorem dX4_laysCrossed_128 : decode cX4_laysCrossed 128 = .ok (.imul, 1) := by decide +kernel
theorem dX4_laysCrossed_129 : decode cX4_laysCrossed 129 = .ok (.iload 7, 2) := by decide +kernel
theorem dX4_laysCrossed_131 : decode cX4_laysCrossed 131 = .ok (.idiv, 1) := by decide +kernel
theorem dX4_laysCrossed_132 : decode cX4_laysCrossed 132 = .ok (.iadd, 1) := by decide +kernel
theorem dX4_laysCrossed_133 : decode cX4_laysCrossed 133 = .ok (.invokevirtual 74, 3) := by decide +kernel
theorem dX4_laysCrossed_136 : decode cX4_laysCrossed 136 = .ok (.iinc 8 1, 3) := by decide +kernel
theorem dX4_laysCrossed_139 : decode cX4_laysCrossed 139 = .ok (.goto (-42), 3) := by decide +kernel
theorem dX4_laysCrossed_142 : decode cX4_laysCrossed 142 = .ok (.return_, 1) := by decide +kernel
theorem dX4_ofChord_0 : decode cX4_ofChord 0 = .ok (.aload_n 0, 1) := by decide +kernel
theorem dX4_ofChord_1 : decode cX4_ofChord 1 = .ok (.getfield 7, 3) := by decide +kernel
theorem dX4_ofChord_4 : decode cX4_ofChord 4 = .ok (.bipush 16, 2) := by decide +kernel
theorem dX4_ofChord_6 : decode cX4_ofChord 6 = .ok (.iconst 3, 1) := by decide +kernel
theorem dX4_ofChord_7 : decode cX4_ofChord 7 = .ok (.iload_n 1, 1) := by decide +kernel
theorem dX4_ofChord_8 : decode cX4_ofChord 8 = .ok (.imul, 1) := by decide +kernel
theorem dX4_ofChord_9 : decode cX4_ofChord 9 = .ok (.iadd, 1) := by decide +kernel
theorem dX4_ofChord_10 : decode cX4_ofChord 10 = .ok (.iload_n 2, 1) := by decide +kernel
theorem dX4_ofChord_11 : decode cX4_ofChord 11 = .ok (.iadd, 1) := by decide +kernel
theorem dX4_ofChord_12 : decode cX4_ofChord 12 = .ok (.iaload, 1) := by decide +kernel
theorem dX4_ofChord_13 : decode cX4_ofChord 13 = .ok (.ireturn, 1) := by decide +kernel
theorem dX4_isBetween_0 : decode cX4_isBetween 0 = .ok (.aload_n 0, 1) := by decide +kernel
theorem dX4_isBetween_1 : decode cX4_isBetween 1 = .ok (.iload_n 1, 1) := by decide +kernel
theorem dX4_isBetween_2 : decode cX4_isBetween 2 = .ok (.iconst 0, 1) := by decide +kernel
theorem dX4_isBetween_3 : decode cX4_isBetween 3 = .ok (.invokevirtual 78, 3) := by decide +kernel
theorem dX4_isBetween_6 : decode cX4_isBetween 6 = .ok (.istore 4, 2) := by decide +kernel
theorem dX4_isBetween_8 : decode cX4_isBetween 8 = .ok (.aload_n 0, 1) := by decide +kernel
theorem dX4_isBetween_9 : decode cX4_isBetween 9 = .ok (.iload_n 1, 1) := by decide +kernel
theorem dX4_isBetween_10 : decode cX4_isBetween 10 = .ok (.iconst 1, 1) := by decide +kernel
theorem dX4_isBetween_11 : decode cX4_isBetween 11 = .ok (.invokevirtual 78, 3) := by decide +kernel
theorem dX4_isBetween_14 : decode cX4_isBetween 14 = .ok (.istore 5, 2) := by decide +kernel
theorem dX4_isBetween_16 : decode cX4_isBetween 16 = .ok (.iload 4, 2) := by decide +kernel
theorem dX4_isBetween_18 : decode cX4_isBetween 18 = .ok (.iload_n 2, 1) := by decide +kernel
theorem dX4_isBetween_19 : decode cX4_isBetween 19 = .ok (.if_icmp .ne 9, 3) := by decide +kernel
theorem dX4_isBetween_22 : decode cX4_isBetween 22 = .ok (.iload 5, 2) := by decide +kernel
theorem dX4_isBetween_24 : decode cX4_isBetween 24 = .ok (.iload_n 3, 1) := by decide +kernel
theorem dX4_isBetween_25 : decode cX4_isBetween 25 = .ok (.if_icmp .eq 15, 3) := by decide +kernel
theorem dX4_isBetween_28 : decode cX4_isBetween 28 = .ok (.iload 4, 2) := by decide +kernel
theorem dX4_isBetween_30 : decode cX4_isBetween 30 = .ok (.iload_n 3, 1) := by decide +kernel
theorem dX4_isBetween_31 : decode cX4_isBetween 31 = .ok (.if_icmp .ne 13, 3) := by decide +kernel
theorem dX4_isBetween_34 : decode cX4_isBetween 34 = .ok (.iload 5, 2) := by decide +kernel
theorem dX4_isBetween_36 : decode cX4_isBetween 36 = .ok (.iload_n 2, 1) := by decide +kernel
theorem dX4_isBetween_37 : decode cX4_isBetween 37 = .ok (.if_icmp .ne 7, 3) := by decide +kernel
theorem dX4_isBetween_40 : decode cX4_isBetween 40 = .ok (.iconst 1, 1) := by decide +kernel
theorem dX4_isBetween_41 : decode cX4_isBetween 41 = .ok (.goto 4, 3) := by decide +kernel
theorem dX4_isBetween_44 : decode cX4_isBetween 44 = .ok (.iconst 0, 1) := by decide +kernel
theorem dX4_isBetween_45 : decode cX4_isBetween 45 = .ok (.ireturn, 1) := by decide +kernel
theorem dX4_liesBetween_0 : decode cX4_liesBetween 0 = .ok (.iconst 0, 1) := by decide +kernel
theorem dX4_liesBetween_1 : decode cX4_liesBetween 1 = .ok (.istore_n 3, 1) := by decide +kernel
theorem dX4_liesBetween_2 : decode cX4_liesBetween 2 = .ok (.iconst 0, 1) := by decide +kernel
theorem dX4_liesBetween_3 : decode cX4_liesBetween 3 = .ok (.istore 4, 2) := by decide +kernel
theorem dX4_liesBetween_5 : decode cX4_liesBetween 5 = .ok (.iload 4, 2) := by decide +kernel
theorem dX4_liesBetween_7 : decode cX4_liesBetween 7 = .ok (.aload_n 0, 1) := by decide +kernel
theorem dX4_liesBetween_8 : decode cX4_liesBetween 8 = .ok (.getfield 7, 3) := by decide +kernel
theorem dX4_liesBetween_11 : decode cX4_liesBetween 11 = .ok (.bipush 15, 2) := by decide +kernel
theorem dX4_liesBetween_13 : decode cX4_liesBetween 13 = .ok (.iaload, 1) := by decide +kernel
theorem dX4_liesBetween_14 : decode cX4_liesBetween 14 = .ok (.if_icmp .ge 28, 3) := by decide +kernel
theorem dX4_liesBetween_17 : decode cX4_liesBetween 17 = .ok (.iload_n 3, 1) := by decide +kernel
theorem dX4_liesBetween_18 : decode cX4_liesBetween 18 = .ok (.aload_n 0, 1) := by decide +kernel
theorem dX4_liesBetween_19 : decode cX4_liesBetween 19 = .ok (.iload 4, 2) := by decide +kernel
theorem dX4_liesBetween_21 : decode cX4_liesBetween 21 = .ok (.iload_n 1, 1) := by decide +kernel
theorem dX4_liesBetween_22 : decode cX4_liesBetween 22 = .ok (.iload_n 2, 1) := by decide +kernel
theorem dX4_liesBetween_23 : decode cX4_liesBetween 23 = .ok (.invokevirtual 82, 3) := by decide +kernel
theorem dX4_liesBetween_26 : decode cX4_liesBetween 26 = .ok (.ifCond .eq 7, 3) := by decide +kernel
theorem dX4_liesBetween_29 : decode cX4_liesBetween 29 = .ok (.iconst 1, 1) := by decide +kernel
theorem dX4_liesBetween_30 : decode cX4_liesBetween 30 = .ok (.goto 4, 3) := by decide +kernel
theorem dX4_liesBetween_33 : decode cX4_liesBetween 33 = .ok (.iconst 0, 1) := by decide +kernel
theorem dX4_liesBetween_34 : decode cX4_liesBetween 34 = .ok (.iadd, 1) := by decide +kernel
theorem dX4_liesBetween_35 : decode cX4_liesBetween 35 = .ok (.istore_n 3, 1) := by decide +kernel
theorem dX4_liesBetween_36 : decode cX4_liesBetween 36 = .ok (.iinc 4 1, 3) := by decide +kernel
theorem dX4_liesBetween_39 : decode cX4_liesBetween 39 = .ok (.goto (-34), 3) := by decide +kernel
theorem dX4_liesBetween_42 : decode cX4_liesBetween 42 = .ok (.iload_n 3, 1) := by decide +kernel
theorem dX4_liesBetween_43 : decode cX4_liesBetween 43 = .ok (.ireturn, 1) := by decide +kernel
theorem dX4_shade_0 : decode cX4_shade 0 = .ok (.aload_n 0, 1) := by decide +kernel
theorem dX4_shade_1 : decode cX4_shade 1 = .ok (.getfield 7, 3) := by decide +kernel
theorem dX4_shade_4 : decode cX4_shade 4 = .ok (.bipush 9, 2) := by decide +kernel
theorem dX4_shade_6 : decode cX4_shade 6 = .ok (.iconst 2, 1) := by decide +kernel
theorem dX4_shade_7 : decode cX4_shade 7 = .ok (.iload_n 1, 1) := by decide +kernel
theorem dX4_shade_8 : decode cX4_shade 8 = .ok (.imul, 1) := by decide +kernel
theorem dX4_shade_9 : decode cX4_shade 9 = .ok (.iadd, 1) := by decide +kernel
theorem dX4_shade_10 : decode cX4_shade 10 = .ok (.iaload, 1) := by decide +kernel
theorem dX4_shade_11 : decode cX4_shade 11 = .ok (.ireturn, 1) := by decide +kernel
theorem dX4_left_0 : decode cX4_left 0 = .ok (.aload_n 0, 1) := by decide +kernel
theorem dX4_left_1 : decode cX4_left 1 = .ok (.getfield 7, 3) := by decide +kernel
theorem dX4_left_4 : decode cX4_left 4 = .ok (.bipush 9, 2) := by decide +kernel
theorem dX4_left_6 : decode cX4_left 6 = .ok (.iconst 2, 1) := by decide +kernel
theorem dX4_left_7 : decode cX4_left 7 = .ok (.iload_n 1, 1) := by decide +kernel
theorem dX4_left_8 : decode cX4_left 8 = .ok (.imul, 1) := by decide +kernel
theorem dX4_left_9 : decode cX4_left 9 = .ok (.iadd, 1) := by decide +kernel
theorem dX4_left_10 : decode cX4_left 10 = .ok (.iconst 1, 1) := by decide +kernel
theorem dX4_left_11 : decode cX4_left 11 = .ok (.iadd, 1) := by decide +kernel
theorem dX4_left_12 : decode cX4_left 12 = .ok (.iaload, 1) := by decide +kernel
theorem dX4_left_13 : decode cX4_left 13 = .ok (.ireturn, 1) := by decide +kernel
theorem dX4_darkens_0 : decode cX4_darkens 0 = .ok (.aload_n 0, 1) := by decide +kernel
theorem dX4_darkens_1 : decode cX4_darkens 1 = .ok (.iload_n 1, 1) := by decide +kernel
theorem dX4_darkens_2 : decode cX4_darkens 2 = .ok (.iload_n 2, 1) := by decide +kernel
theorem dX4_darkens_3 : decode cX4_darkens 3 = .ok (.invokevirtual 85, 3) := by decide +kernel
theorem dX4_darkens_6 : decode cX4_darkens 6 = .ok (.iconst 0, 1) := by decide +kernel
theorem dX4_darkens_7 : decode cX4_darkens 7 = .ok (.istore 4, 2) := by decide +kernel
theorem dX4_darkens_9 : decode cX4_darkens 9 = .ok (.iload 4, 2) := by decide +kernel
theorem dX4_darkens_11 : decode cX4_darkens 11 = .ok (.aload_n 0, 1) := by decide +kernel
theorem dX4_darkens_12 : decode cX4_darkens 12 = .ok (.getfield 68, 3) := by decide +kernel
theorem dX4_darkens_15 : decode cX4_darkens 15 = .ok (.if_icmp .ge 29, 3) := by decide +kernel
theorem dX4_darkens_18 : decode cX4_darkens 18 = .ok (.aload_n 0, 1) := by decide +kernel
theorem dX4_darkens_19 : decode cX4_darkens 19 = .ok (.getfield 7, 3) := by decide +kernel
theorem dX4_darkens_22 : decode cX4_darkens 22 = .ok (.sipush 760, 3) := by decide +kernel
theorem dX4_darkens_25 : decode cX4_darkens 25 = .ok (.aload_n 0, 1) := by decide +kernel
theorem dX4_darkens_26 : decode cX4_darkens 26 = .ok (.getfield 26, 3) := by decide +kernel
theorem dX4_darkens_29 : decode cX4_darkens 29 = .ok (.iload 4, 2) := by decide +kernel
theorem dX4_darkens_31 : decode cX4_darkens 31 = .ok (.iaload, 1) := by decide +kernel
theorem dX4_darkens_32 : decode cX4_darkens 32 = .ok (.iadd, 1) := by decide +kernel
theorem dX4_darkens_33 : decode cX4_darkens 33 = .ok (.dup2, 1) := by decide +kernel
theorem dX4_darkens_34 : decode cX4_darkens 34 = .ok (.iaload, 1) := by decide +kernel
theorem dX4_darkens_35 : decode cX4_darkens 35 = .ok (.iload_n 3, 1) := by decide +kernel
theorem dX4_darkens_36 : decode cX4_darkens 36 = .ok (.iadd, 1) := by decide +kernel
theorem dX4_darkens_37 : decode cX4_darkens 37 = .ok (.iastore, 1) := by decide +kernel
theorem dX4_darkens_38 : decode cX4_darkens 38 = .ok (.iinc 4 1, 3) := by decide +kernel
theorem dX4_darkens_41 : decode cX4_darkens 41 = .ok (.goto (-32), 3) := by decide +kernel
theorem dX4_darkens_44 : decode cX4_darkens 44 = .ok (.return_, 1) := by decide +kernel
theorem dX4_winds_0 : decode cX4_winds 0 = .ok (.aload_n 0, 1) := by decide +kernel
theorem dX4_winds_1 : decode cX4_winds 1 = .ok (.getfield 7, 3) := by decide +kernel
theorem dX4_winds_4 : decode cX4_winds 4 = .ok (.iconst 1, 1) := by decide +kernel
theorem dX4_winds_5 : decode cX4_winds 5 = .ok (.iaload, 1) := by decide +kernel
theorem dX4_winds_6 : decode cX4_winds 6 = .ok (.istore_n 2, 1) := by decide +kernel
theorem dX4_winds_7 : decode cX4_winds 7 = .ok (.aload_n 0, 1) := by decide +kernel
theorem dX4_winds_8 : decode cX4_winds 8 = .ok (.getfield 7, 3) := by decide +kernel
theorem dX4_winds_11 : decode cX4_winds 11 = .ok (.bipush 15, 2) := by decide +kernel
theorem dX4_winds_13 : decode cX4_winds 13 = .ok (.iaload, 1) := by decide +kernel
theorem dX4_winds_14 : decode cX4_winds 14 = .ok (.istore_n 3, 1) := by decide +kernel
theorem dX4_winds_15 : decode cX4_winds 15 = .ok (.aload_n 0, 1) := by decide +kernel
theorem dX4_winds_16 : decode cX4_winds 16 = .ok (.getfield 7, 3) := by decide +kernel
theorem dX4_winds_19 : decode cX4_winds 19 = .ok (.bipush 16, 2) := by decide +kernel
theorem dX4_winds_21 : decode cX4_winds 21 = .ok (.iconst 3, 1) := by decide +kernel
theorem dX4_winds_22 : decode cX4_winds 22 = .ok (.iload_n 3, 1) := by decide +kernel
theorem dX4_winds_23 : decode cX4_winds 23 = .ok (.imul, 1) := by decide +kernel
theorem dX4_winds_24 : decode cX4_winds 24 = .ok (.iadd, 1) := by decide +kernel
theorem dX4_winds_25 : decode cX4_winds 25 = .ok (.iload_n 2, 1) := by decide +kernel
theorem dX4_winds_26 : decode cX4_winds 26 = .ok (.iastore, 1) := by decide +kernel
theorem dX4_winds_27 : decode cX4_winds 27 = .ok (.aload_n 0, 1) := by decide +kernel
theorem dX4_winds_28 : decode cX4_winds 28 = .ok (.getfield 7, 3) := by decide +kernel
theorem dX4_winds_31 : decode cX4_winds 31 = .ok (.bipush 16, 2) := by decide +kernel
theorem dX4_winds_33 : decode cX4_winds 33 = .ok (.iconst 3, 1) := by decide +kernel
theorem dX4_winds_34 : decode cX4_winds 34 = .ok (.iload_n 3, 1) := by decide +kernel
theorem dX4_winds_35 : decode cX4_winds 35 = .ok (.imul, 1) := by decide +kernel
theorem dX4_winds_36 : decode cX4_winds 36 = .ok (.iadd, 1) := by decide +kernel
theorem dX4_winds_37 : decode cX4_winds 37 = .ok (.iconst 1, 1) := by decide +kernel
theorem dX4_winds_38 : decode cX4_winds 38 = .ok (.iadd, 1) := by decide +kernel
theorem dX4_winds_39 : decode cX4_winds 39 = .ok (.iload_n 1, 1) := by decide +kernel
theorem dX4_winds_40 : decode cX4_winds 40 = .ok (.iastore, 1) := by decide +kernel
theorem dX4_winds_41 : decode cX4_winds 41 = .ok (.aload_n 0, 1) := by decide +kernel
theorem dX4_winds_42 : decode cX4_winds 42 = .ok (.getfield 7, 3) := by decide +kernel
theorem dX4_winds_45 : decode cX4_winds 45 = .ok (.bipush 16, 2) := by decide +kernel
theorem dX4_winds_47 : decode cX4_winds 47 = .ok (.iconst 3, 1) := by decide +kernel
theorem dX4_winds_48 : decode cX4_winds 48 = .ok (.iload_n 3, 1) := by decide +kernel
theorem dX4_winds_49 : decode cX4_winds 49 = .ok (.imul, 1) := by decide +kernel
theorem dX4_winds_50 : decode cX4_winds 50 = .ok (.iadd, 1) := by decide +kernel
theorem dX4_winds_51 : decode cX4_winds 51 = .ok (.iconst 2, 1) := by decide +kernel
theorem dX4_winds_52 : decode cX4_winds 52 = .ok (.iadd, 1) := by decide +kernel
theorem dX4_winds_53 : decode cX4_winds 53 = .ok (.aload_n 0, 1) := by decide +kernel
theorem dX4_winds_54 : decode cX4_winds 54 = .ok (.getfield 7, 3) := by decide +kernel
theorem dX4_winds_57 : decode cX4_winds 57 = .ok (.iconst 2, 1) := by decide +kernel
theorem dX4_winds_58 : decode cX4_winds 58 = .ok (.iaload, 1) := by decide +kernel
theorem dX4_winds_59 : decode cX4_winds 59 = .ok (.iastore, 1) := by decide +kernel
theorem dX4_winds_60 : decode cX4_winds 60 = .ok (.aload_n 0, 1) := by decide +kernel
theorem dX4_winds_61 : decode cX4_winds 61 = .ok (.getfield 7, 3) := by decide +kernel
theorem dX4_winds_64 : decode cX4_winds 64 = .ok (.bipush 15, 2) := by decide +kernel
theorem dX4_winds_66 : decode cX4_winds 66 = .ok (.dup2, 1) := by decide +kernel
theorem dX4_winds_67 : decode cX4_winds 67 = .ok (.iaload, 1) := by decide +kernel
theorem dX4_winds_68 : decode cX4_winds 68 = .ok (.iconst 1, 1) := by decide +kernel
theorem dX4_winds_69 : decode cX4_winds 69 = .ok (.iadd, 1) := by decide +kernel
theorem dX4_winds_70 : decode cX4_winds 70 = .ok (.iastore, 1) := by decide +kernel
theorem dX4_winds_71 : decode cX4_winds 71 = .ok (.aload_n 0, 1) := by decide +kernel
theorem dX4_winds_72 : decode cX4_winds 72 = .ok (.iload_n 2, 1) := by decide +kernel
theorem dX4_winds_73 : decode cX4_winds 73 = .ok (.iload_n 1, 1) := by decide +kernel
theorem dX4_winds_74 : decode cX4_winds 74 = .ok (.aload_n 0, 1) := by decide +kernel
theorem dX4_winds_75 : decode cX4_winds 75 = .ok (.aload_n 0, 1) := by decide +kernel
theorem dX4_winds_76 : decode cX4_winds 76 = .ok (.getfield 7, 3) := by decide +kernel
theorem dX4_winds_79 : decode cX4_winds 79 = .ok (.iconst 2, 1) := by decide +kernel
theorem dX4_winds_80 : decode cX4_winds 80 = .ok (.iaload, 1) := by decide +kernel
theorem dX4_winds_81 : decode cX4_winds 81 = .ok (.invokevirtual 88, 3) := by decide +kernel
theorem dX4_winds_84 : decode cX4_winds 84 = .ok (.invokevirtual 91, 3) := by decide +kernel
theorem dX4_winds_87 : decode cX4_winds 87 = .ok (.aload_n 0, 1) := by decide +kernel
theorem dX4_winds_88 : decode cX4_winds 88 = .ok (.getfield 7, 3) := by decide +kernel
theorem dX4_winds_91 : decode cX4_winds 91 = .ok (.bipush 9, 2) := by decide +kernel
theorem dX4_winds_93 : decode cX4_winds 93 = .ok (.iconst 2, 1) := by decide +kernel
theorem dX4_winds_94 : decode cX4_winds 94 = .ok (.aload_n 0, 1) := by decide +kernel
theorem dX4_winds_95 : decode cX4_winds 95 = .ok (.getfield 7, 3) := by decide +kernel
theorem dX4_winds_98 : decode cX4_winds 98 = .ok (.iconst 2, 1) := by decide +kernel
theorem dX4_winds_99 : decode cX4_winds 99 = .ok (.iaload, 1) := by decide +kernel
theorem dX4_winds_100 : decode cX4_winds 100 = .ok (.imul, 1) := by decide +kernel
theorem dX4_winds_101 : decode cX4_winds 101 = .ok (.iadd, 1) := by decide +kernel
theorem dX4_winds_102 : decode cX4_winds 102 = .ok (.iconst 1, 1) := by decide +kernel
theorem dX4_winds_103 : decode cX4_winds 103 = .ok (.iadd, 1) := by decide +kernel
theorem dX4_winds_104 : decode cX4_winds 104 = .ok (.dup2, 1) := by decide +kernel
theorem dX4_winds_105 : decode cX4_winds 105 = .ok (.iaload, 1) := by decide +kernel
theorem dX4_winds_106 : decode cX4_winds 106 = .ok (.aload_n 0, 1) := by decide +kernel
theorem dX4_winds_107 : decode cX4_winds 107 = .ok (.iload_n 2, 1) := by decide +kernel
theorem dX4_winds_108 : decode cX4_winds 108 = .ok (.iload_n 1, 1) := by decide +kernel
theorem dX4_winds_109 : decode cX4_winds 109 = .ok (.invokevirtual 95, 3) := by decide +kernel
theorem dX4_winds_112 : decode cX4_winds 112 = .ok (.isub, 1) := by decide +kernel
theorem dX4_winds_113 : decode cX4_winds 113 = .ok (.iastore, 1) := by decide +kernel
theorem dX4_winds_114 : decode cX4_winds 114 = .ok (.aload_n 0, 1) := by decide +kernel
theorem dX4_winds_115 : decode cX4_winds 115 = .ok (.getfield 7, 3) := by decide +kernel
theorem dX4_winds_118 : decode cX4_winds 118 = .ok (.iconst 1, 1) := by decide +kernel
theorem dX4_winds_119 : decode cX4_winds 119 = .ok (.iload_n 1, 1) := by decide +kernel
theorem dX4_winds_120 : decode cX4_winds 120 = .ok (.iastore, 1) := by decide +kernel
theorem dX4_winds_121 : decode cX4_winds 121 = .ok (.return_, 1) := by decide +kernel
theorem dX4_unwinds_0 : decode cX4_unwinds 0 = .ok (.aload_n 0, 1) := by decide +kernel
theorem dX4_unwinds_1 : decode cX4_unwinds 1 = .ok (.getfield 7, 3) := by decide +kernel
theorem dX4_unwinds_4 : decode cX4_unwinds 4 = .ok (.bipush 15, 2) := by decide +kernel
theorem dX4_unwinds_6 : decode cX4_unwinds 6 = .ok (.iaload, 1) := by decide +kernel
theorem dX4_unwinds_7 : decode cX4_unwinds 7 = .ok (.iconst 1, 1) := by decide +kernel
theorem dX4_unwinds_8 : decode cX4_unwinds 8 = .ok (.isub, 1) := by decide +kernel
theorem dX4_unwinds_9 : decode cX4_unwinds 9 = .ok (.istore_n 1, 1) := by decide +kernel
theorem dX4_unwinds_10 : decode cX4_unwinds 10 = .ok (.aload_n 0, 1) := by decide +kernel
theorem dX4_unwinds_11 : decode cX4_unwinds 11 = .ok (.iload_n 1, 1) := by decide +kernel
theorem dX4_unwinds_12 : decode cX4_unwinds 12 = .ok (.iconst 0, 1) := by decide +kernel
theorem dX4_unwinds_13 : decode cX4_unwinds 13 = .ok (.invokevirtual 78, 3) := by decide +kernel
theorem dX4_unwinds_16 : decode cX4_unwinds 16 = .ok (.istore_n 2, 1) := by decide +kernel
theorem dX4_unwinds_17 : decode cX4_unwinds 17 = .ok (.aload_n 0, 1) := by decide +kernel
theorem dX4_unwinds_18 : decode cX4_unwinds 18 = .ok (.iload_n 1, 1) := by decide +kernel
theorem dX4_unwinds_19 : decode cX4_unwinds 19 = .ok (.iconst 1, 1) := by decide +kernel
theorem dX4_unwinds_20 : decode cX4_unwinds 20 = .ok (.invokevirtual 78, 3) := by decide +kernel
theorem dX4_unwinds_23 : decode cX4_unwinds 23 = .ok (.istore_n 3, 1) := by decide +kernel
theorem dX4_unwinds_24 : decode cX4_unwinds 24 = .ok (.aload_n 0, 1) := by decide +kernel
theorem dX4_unwinds_25 : decode cX4_unwinds 25 = .ok (.iload_n 1, 1) := by decide +kernel
theorem dX4_unwinds_26 : decode cX4_unwinds 26 = .ok (.iconst 2, 1) := by decide +kernel
theorem dX4_unwinds_27 : decode cX4_unwinds 27 = .ok (.invokevirtual 78, 3) := by decide +kernel
theorem dX4_unwinds_30 : decode cX4_unwinds 30 = .ok (.istore 4, 2) := by decide +kernel
theorem dX4_unwinds_32 : decode cX4_unwinds 32 = .ok (.aload_n 0, 1) := by decide +kernel
theorem dX4_unwinds_33 : decode cX4_unwinds 33 = .ok (.getfield 7, 3) := by decide +kernel
theorem dX4_unwinds_36 : decode cX4_unwinds 36 = .ok (.bipush 15, 2) := by decide +kernel
theorem dX4_unwinds_38 : decode cX4_unwinds 38 = .ok (.dup2, 1) := by decide +kernel
theorem dX4_unwinds_39 : decode cX4_unwinds 39 = .ok (.iaload, 1) := by decide +kernel
theorem dX4_unwinds_40 : decode cX4_unwinds 40 = .ok (.iconst 1, 1) := by decide +kernel
theorem dX4_unwinds_41 : decode cX4_unwinds 41 = .ok (.isub, 1) := by decide +kernel
theorem dX4_unwinds_42 : decode cX4_unwinds 42 = .ok (.iastore, 1) := by decide +kernel
theorem dX4_unwinds_43 : decode cX4_unwinds 43 = .ok (.aload_n 0, 1) := by decide +kernel
theorem dX4_unwinds_44 : decode cX4_unwinds 44 = .ok (.iload_n 2, 1) := by decide +kernel
theorem dX4_unwinds_45 : decode cX4_unwinds 45 = .ok (.iload_n 3, 1) := by decide +kernel
theorem dX4_unwinds_46 : decode cX4_unwinds 46 = .ok (.aload_n 0, 1) := by decide +kernel
theorem dX4_unwinds_47 : decode cX4_unwinds 47 = .ok (.iload 4, 2) := by decide +kernel
theorem dX4_unwinds_49 : decode cX4_unwinds 49 = .ok (.invokevirtual 88, 3) := by decide +kernel
theorem dX4_unwinds_52 : decode cX4_unwinds 52 = .ok (.ineg, 1) := by decide +kernel
theorem dX4_unwinds_53 : decode cX4_unwinds 53 = .ok (.invokevirtual 91, 3) := by decide +kernel
theorem dX4_unwinds_56 : decode cX4_unwinds 56 = .ok (.aload_n 0, 1) := by decide +kernel
theorem dX4_unwinds_57 : decode cX4_unwinds 57 = .ok (.getfield 7, 3) := by decide +kernel
theorem dX4_unwinds_60 : decode cX4_unwinds 60 = .ok (.bipush 9, 2) := by decide +kernel
theorem dX4_unwinds_62 : decode cX4_unwinds 62 = .ok (.iconst 2, 1) := by decide +kernel
theorem dX4_unwinds_63 : decode cX4_unwinds 63 = .ok (.iload 4, 2) := by decide +kernel
theorem dX4_unwinds_65 : decode cX4_unwinds 65 = .ok (.imul, 1) := by decide +kernel
theorem dX4_unwinds_66 : decode cX4_unwinds 66 = .ok (.iadd, 1) := by decide +kernel
theorem dX4_unwinds_67 : decode cX4_unwinds 67 = .ok (.iconst 1, 1) := by decide +kernel
theorem dX4_unwinds_68 : decode cX4_unwinds 68 = .ok (.iadd, 1) := by decide +kernel
theorem dX4_unwinds_69 : decode cX4_unwinds 69 = .ok (.dup2, 1) := by decide +kernel
theorem dX4_unwinds_70 : decode cX4_unwinds 70 = .ok (.iaload, 1) := by decide +kernel
theorem dX4_unwinds_71 : decode cX4_unwinds 71 = .ok (.aload_n 0, 1) := by decide +kernel
theorem dX4_unwinds_72 : decode cX4_unwinds 72 = .ok (.iload_n 2, 1) := by decide +kernel
theorem dX4_unwinds_73 : decode cX4_unwinds 73 = .ok (.iload_n 3, 1) := by decide +kernel
theorem dX4_unwinds_74 : decode cX4_unwinds 74 = .ok (.invokevirtual 95, 3) := by decide +kernel
theorem dX4_unwinds_77 : decode cX4_unwinds 77 = .ok (.iadd, 1) := by decide +kernel
theorem dX4_unwinds_78 : decode cX4_unwinds 78 = .ok (.iastore, 1) := by decide +kernel
theorem dX4_unwinds_79 : decode cX4_unwinds 79 = .ok (.aload_n 0, 1) := by decide +kernel
theorem dX4_unwinds_80 : decode cX4_unwinds 80 = .ok (.getfield 7, 3) := by decide +kernel
theorem dX4_unwinds_83 : decode cX4_unwinds 83 = .ok (.iconst 1, 1) := by decide +kernel
theorem dX4_unwinds_84 : decode cX4_unwinds 84 = .ok (.iload_n 2, 1) := by decide +kernel
theorem dX4_unwinds_85 : decode cX4_unwinds 85 = .ok (.iastore, 1) := by decide +kernel
theorem dX4_unwinds_86 : decode cX4_unwinds 86 = .ok (.aload_n 0, 1) := by decide +kernel
theorem dX4_unwinds_87 : decode cX4_unwinds 87 = .ok (.getfield 7, 3) := by decide +kernel
theorem dX4_unwinds_90 : decode cX4_unwinds 90 = .ok (.iconst 2, 1) := by decide +kernel
theorem dX4_unwinds_91 : decode cX4_unwinds 91 = .ok (.iload 4, 2) := by decide +kernel
theorem dX4_unwinds_93 : decode cX4_unwinds 93 = .ok (.iastore, 1) := by decide +kernel
theorem dX4_unwinds_94 : decode cX4_unwinds 94 = .ok (.iconst 0, 1) := by decide +kernel
theorem dX4_unwinds_95 : decode cX4_unwinds 95 = .ok (.istore 5, 2) := by decide +kernel
theorem dX4_unwinds_97 : decode cX4_unwinds 97 = .ok (.iload 5, 2) := by decide +kernel
theorem dX4_unwinds_99 : decode cX4_unwinds 99 = .ok (.iconst 3, 1) := by decide +kernel
theorem dX4_unwinds_100 : decode cX4_unwinds 100 = .ok (.if_icmp .ge 24, 3) := by decide +kernel
theorem dX4_unwinds_103 : decode cX4_unwinds 103 = .ok (.aload_n 0, 1) := by decide +kernel
theorem dX4_unwinds_104 : decode cX4_unwinds 104 = .ok (.getfield 7, 3) := by decide +kernel
theorem dX4_unwinds_107 : decode cX4_unwinds 107 = .ok (.bipush 16, 2) := by decide +kernel
theorem dX4_unwinds_109 : decode cX4_unwinds 109 = .ok (.iconst 3, 1) := by decide +kernel
theorem dX4_unwinds_110 : decode cX4_unwinds 110 = .ok (.iload_n 1, 1) := by decide +kernel
theorem dX4_unwinds_111 : decode cX4_unwinds 111 = .ok (.imul, 1) := by decide +kernel
theorem dX4_unwinds_112 : decode cX4_unwinds 112 = .ok (.iadd, 1) := by decide +kernel
theorem dX4_unwinds_113 : decode cX4_unwinds 113 = .ok (.iload 5, 2) := by decide +kernel
theorem dX4_unwinds_115 : decode cX4_unwinds 115 = .ok (.iadd, 1) := by decide +kernel
theorem dX4_unwinds_116 : decode cX4_unwinds 116 = .ok (.iconst 0, 1) := by decide +kernel
theorem dX4_unwinds_117 : decode cX4_unwinds 117 = .ok (.iastore, 1) := by decide +kernel
theorem dX4_unwinds_118 : decode cX4_unwinds 118 = .ok (.iinc 5 1, 3) := by decide +kernel
theorem dX4_unwinds_121 : decode cX4_unwinds 121 = .ok (.goto (-24), 3) := by decide +kernel
theorem dX4_unwinds_124 : decode cX4_unwinds 124 = .ok (.return_, 1) := by decide +kernel
theorem dX4_refused_0 : decode cX4_refused 0 = .ok (.iload_n 1, 1) := by decide +kernel
theorem dX4_refused_1 : decode cX4_refused 1 = .ok (.iload_n 2, 1) := by decide +kernel
theorem dX4_refused_2 : decode cX4_refused 2 = .ok (.isub, 1) := by decide +kernel
theorem dX4_refused_3 : decode cX4_refused 3 = .ok (.invokestatic 71, 3) := by decide +kernel
theorem dX4_refused_6 : decode cX4_refused 6 = .ok (.istore 4, 2) := by decide +kernel
theorem dX4_refused_8 : decode cX4_refused 8 = .ok (.iload 4, 2) := by decide +kernel
theorem dX4_refused_10 : decode cX4_refused 10 = .ok (.aload_n 0, 1) := by decide +kernel
theorem dX4_refused_11 : decode cX4_refused 11 = .ok (.getfield 7, 3) := by decide +kernel
theorem dX4_refused_14 : decode cX4_refused 14 = .ok (.iconst 0, 1) := by decide +kernel
theorem dX4_refused_15 : decode cX4_refused 15 = .ok (.iaload, 1) := by decide +kernel
theorem dX4_refused_16 : decode cX4_refused 16 = .ok (.iload 4, 2) := by decide +kernel
theorem dX4_refused_18 : decode cX4_refused 18 = .ok (.isub, 1) := by decide +kernel
theorem dX4_refused_19 : decode cX4_refused 19 = .ok (.if_icmp .ge 8, 3) := by decide +kernel
theorem dX4_refused_22 : decode cX4_refused 22 = .ok (.iload 4, 2) := by decide +kernel
theorem dX4_refused_24 : decode cX4_refused 24 = .ok (.goto 12, 3) := by decide +kernel
theorem dX4_refused_27 : decode cX4_refused 27 = .ok (.aload_n 0, 1) := by decide +kernel
theorem dX4_refused_28 : decode cX4_refused 28 = .ok (.getfield 7, 3) := by decide +kernel
theorem dX4_refused_31 : decode cX4_refused 31 = .ok (.iconst 0, 1) := by decide +kernel
theorem dX4_refused_32 : decode cX4_refused 32 = .ok (.iaload, 1) := by decide +kernel
theorem dX4_refused_33 : decode cX4_refused 33 = .ok (.iload 4, 2) := by decide +kernel
theorem dX4_refused_35 : decode cX4_refused 35 = .ok (.isub, 1) := by decide +kernel
theorem dX4_refused_36 : decode cX4_refused 36 = .ok (.istore 5, 2) := by decide +kernel
theorem dX4_refused_38 : decode cX4_refused 38 = .ok (.iload 4, 2) := by decide +kernel
theorem dX4_refused_40 : decode cX4_refused 40 = .ok (.ifCond .eq 15, 3) := by decide +kernel
theorem dX4_refused_43 : decode cX4_refused 43 = .ok (.iload 5, 2) := by decide +kernel
theorem dX4_refused_45 : decode cX4_refused 45 = .ok (.aload_n 0, 1) := by decide +kernel
theorem dX4_refused_46 : decode cX4_refused 46 = .ok (.getfield 7, 3) := by decide +kernel
theorem dX4_refused_49 : decode cX4_refused 49 = .ok (.bipush 6, 2) := by decide +kernel
theorem dX4_refused_51 : decode cX4_refused 51 = .ok (.iaload, 1) := by decide +kernel
theorem dX4_refused_52 : decode cX4_refused 52 = .ok (.if_icmp .ge 14, 3) := by decide +kernel
theorem dX4_refused_55 : decode cX4_refused 55 = .ok (.iload 4, 2) := by decide +kernel
theorem dX4_refused_57 : decode cX4_refused 57 = .ok (.ifCond .ne 7, 3) := by decide +kernel
theorem dX4_refused_60 : decode cX4_refused 60 = .ok (.iconst 1, 1) := by decide +kernel
theorem dX4_refused_61 : decode cX4_refused 61 = .ok (.goto 4, 3) := by decide +kernel
theorem dX4_refused_64 : decode cX4_refused 64 = .ok (.iconst 2, 1) := by decide +kernel
theorem dX4_refused_65 : decode cX4_refused 65 = .ok (.ireturn, 1) := by decide +kernel
theorem dX4_refused_66 : decode cX4_refused 66 = .ok (.aload_n 0, 1) := by decide +kernel
theorem dX4_refused_67 : decode cX4_refused 67 = .ok (.iload_n 1, 1) := by decide +kernel
theorem dX4_refused_68 : decode cX4_refused 68 = .ok (.iload_n 2, 1) := by decide +kernel
theorem dX4_refused_69 : decode cX4_refused 69 = .ok (.invokevirtual 98, 3) := by decide +kernel
theorem dX4_refused_72 : decode cX4_refused 72 = .ok (.aload_n 0, 1) := by decide +kernel
theorem dX4_refused_73 : decode cX4_refused 73 = .ok (.getfield 7, 3) := by decide +kernel
theorem dX4_refused_76 : decode cX4_refused 76 = .ok (.bipush 7, 2) := by decide +kernel
theorem dX4_refused_78 : decode cX4_refused 78 = .ok (.iaload, 1) := by decide +kernel
theorem dX4_refused_79 : decode cX4_refused 79 = .ok (.if_icmp .lt 7, 3) := by decide +kernel
theorem dX4_refused_82 : decode cX4_refused 82 = .ok (.iconst 3, 1) := by decide +kernel
theorem dX4_refused_83 : decode cX4_refused 83 = .ok (.goto 22, 3) := by decide +kernel
theorem dX4_refused_86 : decode cX4_refused 86 = .ok (.aload_n 0, 1) := by decide +kernel
theorem dX4_refused_87 : decode cX4_refused 87 = .ok (.iload_n 3, 1) := by decide +kernel
theorem dX4_refused_88 : decode cX4_refused 88 = .ok (.invokevirtual 101, 3) := by decide +kernel
theorem dX4_refused_91 : decode cX4_refused 91 = .ok (.aload_n 0, 1) := by decide +kernel
theorem dX4_refused_92 : decode cX4_refused 92 = .ok (.iload_n 1, 1) := by decide +kernel
theorem dX4_refused_93 : decode cX4_refused 93 = .ok (.iload_n 2, 1) := by decide +kernel
theorem dX4_refused_94 : decode cX4_refused 94 = .ok (.invokevirtual 95, 3) := by decide +kernel
theorem dX4_refused_97 : decode cX4_refused 97 = .ok (.if_icmp .ge 7, 3) := by decide +kernel
theorem dX4_refused_100 : decode cX4_refused 100 = .ok (.iconst 4, 1) := by decide +kernel
theorem dX4_refused_101 : decode cX4_refused 101 = .ok (.goto 4, 3) := by decide +kernel
theorem dX4_refused_104 : decode cX4_refused 104 = .ok (.iconst 0, 1) := by decide +kernel
theorem dX4_refused_105 : decode cX4_refused 105 = .ok (.ireturn, 1) := by decide +kernel
theorem dX4_lack_0 : decode cX4_lack 0 = .ok (.aload_n 0, 1) := by decide +kernel
theorem dX4_lack_1 : decode cX4_lack 1 = .ok (.getfield 7, 3) := by decide +kernel
theorem dX4_lack_4 : decode cX4_lack 4 = .ok (.sipush 616, 3) := by decide +kernel
theorem dX4_lack_7 : decode cX4_lack 7 = .ok (.iload_n 1, 1) := by decide +kernel
theorem dX4_lack_8 : decode cX4_lack 8 = .ok (.iadd, 1) := by decide +kernel
theorem dX4_lack_9 : decode cX4_lack 9 = .ok (.iaload, 1) := by decide +kernel
theorem dX4_lack_10 : decode cX4_lack 10 = .ok (.aload_n 0, 1) := by decide +kernel
theorem dX4_lack_11 : decode cX4_lack 11 = .ok (.getfield 7, 3) := by decide +kernel
theorem dX4_lack_14 : decode cX4_lack 14 = .ok (.bipush 8, 2) := by decide +kernel
theorem dX4_lack_16 : decode cX4_lack 16 = .ok (.iaload, 1) := by decide +kernel
theorem dX4_lack_17 : decode cX4_lack 17 = .ok (.imul, 1) := by decide +kernel
theorem dX4_lack_18 : decode cX4_lack 18 = .ok (.aload_n 0, 1) := by decide +kernel
theorem dX4_lack_19 : decode cX4_lack 19 = .ok (.getfield 7, 3) := by decide +kernel
theorem dX4_lack_22 : decode cX4_lack 22 = .ok (.sipush 760, 3) := by decide +kernel
theorem dX4_lack_25 : decode cX4_lack 25 = .ok (.iload_n 1, 1) := by decide +kernel
theorem dX4_lack_26 : decode cX4_lack 26 = .ok (.iadd, 1) := by decide +kernel
theorem dX4_lack_27 : decode cX4_lack 27 = .ok (.iaload, 1) := by decide +kernel
theorem dX4_lack_28 : decode cX4_lack 28 = .ok (.isub, 1) := by decide +kernel
theorem dX4_lack_29 : decode cX4_lack 29 = .ok (.ireturn, 1) := by decide +kernel
theorem dX4_misfit_0 : decode cX4_misfit 0 = .ok (.iconst 0, 1) := by decide +kernel
theorem dX4_misfit_1 : decode cX4_misfit 1 = .ok (.istore_n 1, 1) := by decide +kernel
theorem dX4_misfit_2 : decode cX4_misfit 2 = .ok (.iconst 0, 1) := by decide +kernel
theorem dX4_misfit_3 : decode cX4_misfit 3 = .ok (.istore_n 2, 1) := by decide +kernel
theorem dX4_misfit_4 : decode cX4_misfit 4 = .ok (.iload_n 2, 1) := by decide +kernel
theorem dX4_misfit_5 : decode cX4_misfit 5 = .ok (.sipush 144, 3) := by decide +kernel
theorem dX4_misfit_8 : decode cX4_misfit 8 = .ok (.if_icmp .ge 20, 3) := by decide +kernel
theorem dX4_misfit_11 : decode cX4_misfit 11 = .ok (.iload_n 1, 1) := by decide +kernel
theorem dX4_misfit_12 : decode cX4_misfit 12 = .ok (.aload_n 0, 1) := by decide +kernel
theorem dX4_misfit_13 : decode cX4_misfit 13 = .ok (.iload_n 2, 1) := by decide +kernel
theorem dX4_misfit_14 : decode cX4_misfit 14 = .ok (.invokevirtual 104, 3) := by decide +kernel
theorem dX4_misfit_17 : decode cX4_misfit 17 = .ok (.invokestatic 71, 3) := by decide +kernel
theorem dX4_misfit_20 : decode cX4_misfit 20 = .ok (.iadd, 1) := by decide +kernel
theorem dX4_misfit_21 : decode cX4_misfit 21 = .ok (.istore_n 1, 1) := by decide +kernel
theorem dX4_misfit_22 : decode cX4_misfit 22 = .ok (.iinc 2 1, 3) := by decide +kernel
theorem dX4_misfit_25 : decode cX4_misfit 25 = .ok (.goto (-21), 3) := by decide +kernel
theorem dX4_misfit_28 : decode cX4_misfit 28 = .ok (.iload_n 1, 1) := by decide +kernel
theorem dX4_misfit_29 : decode cX4_misfit 29 = .ok (.ireturn, 1) := by decide +kernel
theorem dX4_gained_0 : decode cX4_gained 0 = .ok (.iconst 0, 1) := by decide +kernel
theorem dX4_gained_1 : decode cX4_gained 1 = .ok (.istore 4, 2) := by decide +kernel
theorem dX4_gained_3 : decode cX4_gained 3 = .ok (.aload_n 0, 1) := by decide +kernel
theorem dX4_gained_4 : decode cX4_gained 4 = .ok (.iload_n 1, 1) := by decide +kernel
theorem dX4_gained_5 : decode cX4_gained 5 = .ok (.iload_n 2, 1) := by decide +kernel
theorem dX4_gained_6 : decode cX4_gained 6 = .ok (.invokevirtual 85, 3) := by decide +kernel
theorem dX4_gained_9 : decode cX4_gained 9 = .ok (.iconst 0, 1) := by decide +kernel
theorem dX4_gained_10 : decode cX4_gained 10 = .ok (.istore 5, 2) := by decide +kernel
theorem dX4_gained_12 : decode cX4_gained 12 = .ok (.iload 5, 2) := by decide +kernel
theorem dX4_gained_14 : decode cX4_gained 14 = .ok (.aload_n 0, 1) := by decide +kernel
theorem dX4_gained_15 : decode cX4_gained 15 = .ok (.getfield 68, 3) := by decide +kernel
theorem dX4_gained_18 : decode cX4_gained 18 = .ok (.if_icmp .ge 40, 3) := by decide +kernel
theorem dX4_gained_21 : decode cX4_gained 21 = .ok (.aload_n 0, 1) := by decide +kernel
theorem dX4_gained_22 : decode cX4_gained 22 = .ok (.aload_n 0, 1) := by decide +kernel
theorem dX4_gained_23 : decode cX4_gained 23 = .ok (.getfield 26, 3) := by decide +kernel
theorem dX4_gained_26 : decode cX4_gained 26 = .ok (.iload 5, 2) := by decide +kernel
theorem dX4_gained_28 : decode cX4_gained 28 = .ok (.iaload, 1) := by decide +kernel
theorem dX4_gained_29 : decode cX4_gained 29 = .ok (.invokevirtual 104, 3) := by decide +kernel
theorem dX4_gained_32 : decode cX4_gained 32 = .ok (.istore 6, 2) := by decide +kernel
theorem dX4_gained_34 : decode cX4_gained 34 = .ok (.iload 4, 2) := by decide +kernel
theorem dX4_gained_36 : decode cX4_gained 36 = .ok (.iload 6, 2) := by decide +kernel
theorem dX4_gained_38 : decode cX4_gained 38 = .ok (.invokestatic 71, 3) := by decide +kernel
theorem dX4_gained_41 : decode cX4_gained 41 = .ok (.iload 6, 2) := by decide +kernel
theorem dX4_gained_43 : decode cX4_gained 43 = .ok (.iload_n 3, 1) := by decide +kernel
theorem dX4_gained_44 : decode cX4_gained 44 = .ok (.isub, 1) := by decide +kernel
theorem dX4_gained_45 : decode cX4_gained 45 = .ok (.invokestatic 71, 3) := by decide +kernel
theorem dX4_gained_48 : decode cX4_gained 48 = .ok (.isub, 1) := by decide +kernel
theorem dX4_gained_49 : decode cX4_gained 49 = .ok (.iadd, 1) := by decide +kernel
theorem dX4_gained_50 : decode cX4_gained 50 = .ok (.istore 4, 2) := by decide +kernel
theorem dX4_gained_52 : decode cX4_gained 52 = .ok (.iinc 5 1, 3) := by decide +kernel
theorem dX4_gained_55 : decode cX4_gained 55 = .ok (.goto (-43), 3) := by decide +kernel
theorem dX4_gained_58 : decode cX4_gained 58 = .ok (.iload 4, 2) := by decide +kernel
theorem dX4_gained_60 : decode cX4_gained 60 = .ok (.ireturn, 1) := by decide +kernel
theorem dX4_isNearer_0 : decode cX4_isNearer 0 = .ok (.aload_n 0, 1) := by decide +kernel
theorem dX4_isNearer_1 : decode cX4_isNearer 1 = .ok (.aload_n 0, 1) := by decide +kernel
theorem dX4_isNearer_2 : decode cX4_isNearer 2 = .ok (.getfield 7, 3) := by decide +kernel
theorem dX4_isNearer_5 : decode cX4_isNearer 5 = .ok (.iconst 1, 1) := by decide +kernel
theorem dX4_isNearer_6 : decode cX4_isNearer 6 = .ok (.iaload, 1) := by decide +kernel
theorem dX4_isNearer_7 : decode cX4_isNearer 7 = .ok (.iload_n 1, 1) := by decide +kernel
theorem dX4_isNearer_8 : decode cX4_isNearer 8 = .ok (.invokevirtual 98, 3) := by decide +kernel
theorem dX4_isNearer_11 : decode cX4_isNearer 11 = .ok (.aload_n 0, 1) := by decide +kernel
theorem dX4_isNearer_12 : decode cX4_isNearer 12 = .ok (.aload_n 0, 1) := by decide +kernel
theorem dX4_isNearer_13 : decode cX4_isNearer 13 = .ok (.getfield 7, 3) := by decide +kernel
theorem dX4_isNearer_16 : decode cX4_isNearer 16 = .ok (.iconst 1, 1) := by decide +kernel
theorem dX4_isNearer_17 : decode cX4_isNearer 17 = .ok (.iaload, 1) := by decide +kernel
theorem dX4_isNearer_18 : decode cX4_isNearer 18 = .ok (.iload_n 2, 1) := by decide +kernel
theorem dX4_isNearer_19 : decode cX4_isNearer 19 = .ok (.invokevirtual 98, 3) := by decide +kernel
theorem dX4_isNearer_22 : decode cX4_isNearer 22 = .ok (.isub, 1) := by decide +kernel
theorem dX4_isNearer_23 : decode cX4_isNearer 23 = .ok (.istore_n 3, 1) := by decide +kernel
theorem dX4_isNearer_24 : decode cX4_isNearer 24 = .ok (.aload_n 0, 1) := by decide +kernel
theorem dX4_isNearer_25 : decode cX4_isNearer 25 = .ok (.aload_n 0, 1) := by decide +kernel
theorem dX4_isNearer_26 : decode cX4_isNearer 26 = .ok (.getfield 7, 3) := by decide +kernel
theorem dX4_isNearer_29 : decode cX4_isNearer 29 = .ok (.iconst 1, 1) := by decide +kernel
theorem dX4_isNearer_30 : decode cX4_isNearer 30 = .ok (.iaload, 1) := by decide +kernel
theorem dX4_isNearer_31 : decode cX4_isNearer 31 = .ok (.iload_n 1, 1) := by decide +kernel
theorem dX4_isNearer_32 : decode cX4_isNearer 32 = .ok (.invokevirtual 95, 3) := by decide +kernel
theorem dX4_isNearer_35 : decode cX4_isNearer 35 = .ok (.aload_n 0, 1) := by decide +kernel
theorem dX4_isNearer_36 : decode cX4_isNearer 36 = .ok (.aload_n 0, 1) := by decide +kernel
theorem dX4_isNearer_37 : decode cX4_isNearer 37 = .ok (.getfield 7, 3) := by decide +kernel
theorem dX4_isNearer_40 : decode cX4_isNearer 40 = .ok (.iconst 1, 1) := by decide +kernel
theorem dX4_isNearer_41 : decode cX4_isNearer 41 = .ok (.iaload, 1) := by decide +kernel
theorem dX4_isNearer_42 : decode cX4_isNearer 42 = .ok (.iload_n 2, 1) := by decide +kernel
theorem dX4_isNearer_43 : decode cX4_isNearer 43 = .ok (.invokevirtual 95, 3) := by decide +kernel
theorem dX4_isNearer_46 : decode cX4_isNearer 46 = .ok (.isub, 1) := by decide +kernel
theorem dX4_isNearer_47 : decode cX4_isNearer 47 = .ok (.istore 4, 2) := by decide +kernel
theorem dX4_isNearer_49 : decode cX4_isNearer 49 = .ok (.iload_n 3, 1) := by decide +kernel
theorem dX4_isNearer_50 : decode cX4_isNearer 50 = .ok (.ifCond .eq 15, 3) := by decide +kernel
theorem dX4_isNearer_53 : decode cX4_isNearer 53 = .ok (.iload_n 3, 1) := by decide +kernel
theorem dX4_isNearer_54 : decode cX4_isNearer 54 = .ok (.ifCond .ge 7, 3) := by decide +kernel
theorem dX4_isNearer_57 : decode cX4_isNearer 57 = .ok (.iconst 1, 1) := by decide +kernel
theorem dX4_isNearer_58 : decode cX4_isNearer 58 = .ok (.goto 17, 3) := by decide +kernel
theorem dX4_isNearer_61 : decode cX4_isNearer 61 = .ok (.iconst 0, 1) := by decide +kernel
theorem dX4_isNearer_62 : decode cX4_isNearer 62 = .ok (.goto 13, 3) := by decide +kernel
theorem dX4_isNearer_65 : decode cX4_isNearer 65 = .ok (.iload 4, 2) := by decide +kernel
theorem dX4_isNearer_67 : decode cX4_isNearer 67 = .ok (.ifCond .ge 7, 3) := by decide +kernel
theorem dX4_isNearer_70 : decode cX4_isNearer 70 = .ok (.iconst 1, 1) := by decide +kernel
theorem dX4_isNearer_71 : decode cX4_isNearer 71 = .ok (.goto 4, 3) := by decide +kernel
theorem dX4_isNearer_74 : decode cX4_isNearer 74 = .ok (.iconst 0, 1) := by decide +kernel
theorem dX4_isNearer_75 : decode cX4_isNearer 75 = .ok (.ireturn, 1) := by decide +kernel
theorem dX4_bestWith_0 : decode cX4_bestWith 0 = .ok (.iconst (-1), 1) := by decide +kernel
theorem dX4_bestWith_1 : decode cX4_bestWith 1 = .ok (.istore_n 2, 1) := by decide +kernel
theorem dX4_bestWith_2 : decode cX4_bestWith 2 = .ok (.iconst 0, 1) := by decide +kernel
theorem dX4_bestWith_3 : decode cX4_bestWith 3 = .ok (.istore_n 3, 1) := by decide +kernel
theorem dX4_bestWith_4 : decode cX4_bestWith 4 = .ok (.iconst 0, 1) := by decide +kernel
theorem dX4_bestWith_5 : decode cX4_bestWith 5 = .ok (.istore 4, 2) := by decide +kernel
theorem dX4_bestWith_7 : decode cX4_bestWith 7 = .ok (.iload 4, 2) := by decide +kernel
theorem dX4_bestWith_9 : decode cX4_bestWith 9 = .ok (.aload_n 0, 1) := by decide +kernel
theorem dX4_bestWith_10 : decode cX4_bestWith 10 = .ok (.getfield 7, 3) := by decide +kernel
theorem dX4_bestWith_13 : decode cX4_bestWith 13 = .ok (.iconst 0, 1) := by decide +kernel
theorem dX4_bestWith_14 : decode cX4_bestWith 14 = .ok (.iaload, 1) := by decide +kernel
theorem dX4_bestWith_15 : decode cX4_bestWith 15 = .ok (.if_icmp .ge 102, 3) := by decide +kernel
theorem dX4_bestWith_18 : decode cX4_bestWith 18 = .ok (.aload_n 0, 1) := by decide +kernel
theorem dX4_bestWith_19 : decode cX4_bestWith 19 = .ok (.aload_n 0, 1) := by decide +kernel
theorem dX4_bestWith_20 : decode cX4_bestWith 20 = .ok (.getfield 7, 3) := by decide +kernel
theorem dX4_bestWith_23 : decode cX4_bestWith 23 = .ok (.iconst 1, 1) := by decide +kernel
theorem dX4_bestWith_24 : decode cX4_bestWith 24 = .ok (.iaload, 1) := by decide +kernel
theorem dX4_bestWith_25 : decode cX4_bestWith 25 = .ok (.iload 4, 2) := by decide +kernel
theorem dX4_bestWith_27 : decode cX4_bestWith 27 = .ok (.iload_n 1, 1) := by decide +kernel
theorem dX4_bestWith_28 : decode cX4_bestWith 28 = .ok (.invokevirtual 107, 3) := by decide +kernel
theorem dX4_bestWith_31 : decode cX4_bestWith 31 = .ok (.ifCond .ne 80, 3) := by decide +kernel
theorem dX4_bestWith_34 : decode cX4_bestWith 34 = .ok (.aload_n 0, 1) := by decide +kernel
theorem dX4_bestWith_35 : decode cX4_bestWith 35 = .ok (.aload_n 0, 1) := by decide +kernel
theorem dX4_bestWith_36 : decode cX4_bestWith 36 = .ok (.getfield 7, 3) := by decide +kernel
theorem dX4_bestWith_39 : decode cX4_bestWith 39 = .ok (.iconst 1, 1) := by decide +kernel
theorem dX4_bestWith_40 : decode cX4_bestWith 40 = .ok (.iaload, 1) := by decide +kernel
theorem dX4_bestWith_41 : decode cX4_bestWith 41 = .ok (.iload 4, 2) := by decide +kernel
theorem dX4_bestWith_43 : decode cX4_bestWith 43 = .ok (.aload_n 0, 1) := by decide +kernel
theorem dX4_bestWith_44 : decode cX4_bestWith 44 = .ok (.iload_n 1, 1) := by decide +kernel
theorem dX4_bestWith_45 : decode cX4_bestWith 45 = .ok (.invokevirtual 88, 3) := by decide +kernel
theorem dX4_bestWith_48 : decode cX4_bestWith 48 = .ok (.invokevirtual 111, 3) := by decide +kernel
theorem dX4_bestWith_51 : decode cX4_bestWith 51 = .ok (.istore 5, 2) := by decide +kernel
theorem dX4_bestWith_53 : decode cX4_bestWith 53 = .ok (.iload_n 2, 1) := by decide +kernel
theorem dX4_bestWith_54 : decode cX4_bestWith 54 = .ok (.iconst (-1), 1) := by decide +kernel
theorem dX4_bestWith_55 : decode cX4_bestWith 55 = .ok (.if_icmp .eq 25, 3) := by decide +kernel
theorem dX4_bestWith_58 : decode cX4_bestWith 58 = .ok (.iload 5, 2) := by decide +kernel
theorem dX4_bestWith_60 : decode cX4_bestWith 60 = .ok (.iload_n 3, 1) := by decide +kernel
theorem dX4_bestWith_61 : decode cX4_bestWith 61 = .ok (.if_icmp .gt 19, 3) := by decide +kernel
theorem dX4_bestWith_64 : decode cX4_bestWith 64 = .ok (.iload 5, 2) := by decide +kernel
theorem dX4_bestWith_66 : decode cX4_bestWith 66 = .ok (.iload_n 3, 1) := by decide +kernel
theorem dX4_bestWith_67 : decode cX4_bestWith 67 = .ok (.if_icmp .ne 17, 3) := by decide +kernel
theorem dX4_bestWith_70 : decode cX4_bestWith 70 = .ok (.aload_n 0, 1) := by decide +kernel
theorem dX4_bestWith_71 : decode cX4_bestWith 71 = .ok (.iload 4, 2) := by decide +kernel
theorem dX4_bestWith_73 : decode cX4_bestWith 73 = .ok (.iload_n 2, 1) := by decide +kernel
theorem dX4_bestWith_74 : decode cX4_bestWith 74 = .ok (.invokevirtual 114, 3) := by decide +kernel
theorem dX4_bestWith_77 : decode cX4_bestWith 77 = .ok (.ifCond .eq 7, 3) := by decide +kernel
theorem dX4_bestWith_80 : decode cX4_bestWith 80 = .ok (.iconst 1, 1) := by decide +kernel
theorem dX4_bestWith_81 : decode cX4_bestWith 81 = .ok (.goto 4, 3) := by decide +kernel
theorem dX4_bestWith_84 : decode cX4_bestWith 84 = .ok (.iconst 0, 1) := by decide +kernel
theorem dX4_bestWith_85 : decode cX4_bestWith 85 = .ok (.istore 6, 2) := by decide +kernel
theorem dX4_bestWith_87 : decode cX4_bestWith 87 = .ok (.iload 6, 2) := by decide +kernel
theorem dX4_bestWith_89 : decode cX4_bestWith 89 = .ok (.ifCond .eq 8, 3) := by decide +kernel
theorem dX4_bestWith_92 : decode cX4_bestWith 92 = .ok (.iload 4, 2) := by decide +kernel
theorem dX4_bestWith_94 : decode cX4_bestWith 94 = .ok (.goto 4, 3) := by decide +kernel
theorem dX4_bestWith_97 : decode cX4_bestWith 97 = .ok (.iload_n 2, 1) := by decide +kernel
theorem dX4_bestWith_98 : decode cX4_bestWith 98 = .ok (.istore_n 2, 1) := by decide +kernel
theorem dX4_bestWith_99 : decode cX4_bestWith 99 = .ok (.iload 6, 2) := by decide +kernel
theorem dX4_bestWith_101 : decode cX4_bestWith 101 = .ok (.ifCond .eq 8, 3) := by decide +kernel
theorem dX4_bestWith_104 : decode cX4_bestWith 104 = .ok (.iload 5, 2) := by decide +kernel
theorem dX4_bestWith_106 : decode cX4_bestWith 106 = .ok (.goto 4, 3) := by decide +kernel
theorem dX4_bestWith_109 : decode cX4_bestWith 109 = .ok (.iload_n 3, 1) := by decide +kernel
theorem dX4_bestWith_110 : decode cX4_bestWith 110 = .ok (.istore_n 3, 1) := by decide +kernel
theorem dX4_bestWith_111 : decode cX4_bestWith 111 = .ok (.iinc 4 1, 3) := by decide +kernel
theorem dX4_bestWith_114 : decode cX4_bestWith 114 = .ok (.goto (-107), 3) := by decide +kernel
theorem dX4_bestWith_117 : decode cX4_bestWith 117 = .ok (.iload_n 2, 1) := by decide +kernel
theorem dX4_bestWith_118 : decode cX4_bestWith 118 = .ok (.ireturn, 1) := by decide +kernel
theorem dX4_nails_0 : decode cX4_nails 0 = .ok (.aload_n 0, 1) := by decide +kernel
theorem dX4_nails_1 : decode cX4_nails 1 = .ok (.iconst 0, 1) := by decide +kernel
theorem dX4_nails_2 : decode cX4_nails 2 = .ok (.putfield 35, 3) := by decide +kernel
theorem dX4_nails_5 : decode cX4_nails 5 = .ok (.iload_n 1, 1) := by decide +kernel
theorem dX4_nails_6 : decode cX4_nails 6 = .ok (.iconst 4, 1) := by decide +kernel
theorem dX4_nails_7 : decode cX4_nails 7 = .ok (.if_icmp .eq 33, 3) := by decide +kernel
theorem dX4_nails_10 : decode cX4_nails 10 = .ok (.iload_n 1, 1) := by decide +kernel
theorem dX4_nails_11 : decode cX4_nails 11 = .ok (.bipush 6, 2) := by decide +kernel
theorem dX4_nails_13 : decode cX4_nails 13 = .ok (.if_icmp .eq 27, 3) := by decide +kernel
theorem dX4_nails_16 : decode cX4_nails 16 = .ok (.iload_n 1, 1) := by decide +kernel
theorem dX4_nails_17 : decode cX4_nails 17 = .ok (.bipush 8, 2) := by decide +kernel
theorem dX4_nails_19 : decode cX4_nails 19 = .ok (.if_icmp .eq 21, 3) := by decide +kernel
theorem dX4_nails_22 : decode cX4_nails 22 = .ok (.iload_n 1, 1) := by decide +kernel
theorem dX4_nails_23 : decode cX4_nails 23 = .ok (.bipush 12, 2) := by decide +kernel
theorem dX4_nails_25 : decode cX4_nails 25 = .ok (.if_icmp .eq 15, 3) := by decide +kernel
theorem dX4_nails_28 : decode cX4_nails 28 = .ok (.iload_n 1, 1) := by decide +kernel
theorem dX4_nails_29 : decode cX4_nails 29 = .ok (.bipush 24, 2) := by decide +kernel
theorem dX4_nails_31 : decode cX4_nails 31 = .ok (.if_icmp .eq 9, 3) := by decide +kernel
theorem dX4_nails_34 : decode cX4_nails 34 = .ok (.aload_n 0, 1) := by decide +kernel
theorem dX4_nails_35 : decode cX4_nails 35 = .ok (.iconst 1, 1) := by decide +kernel
theorem dX4_nails_36 : decode cX4_nails 36 = .ok (.invokevirtual 118, 3) := by decide +kernel
theorem dX4_nails_39 : decode cX4_nails 39 = .ok (.ireturn, 1) := by decide +kernel
theorem dX4_nails_40 : decode cX4_nails 40 = .ok (.aload_n 0, 1) := by decide +kernel
theorem dX4_nails_41 : decode cX4_nails 41 = .ok (.invokevirtual 121, 3) := by decide +kernel
theorem dX4_nails_44 : decode cX4_nails 44 = .ok (.aload_n 0, 1) := by decide +kernel
theorem dX4_nails_45 : decode cX4_nails 45 = .ok (.getfield 7, 3) := by decide +kernel
theorem dX4_nails_48 : decode cX4_nails 48 = .ok (.iconst 0, 1) := by decide +kernel
theorem dX4_nails_49 : decode cX4_nails 49 = .ok (.iaload, 1) := by decide +kernel
theorem dX4_nails_50 : decode cX4_nails 50 = .ok (.istore_n 2, 1) := by decide +kernel
theorem dX4_nails_51 : decode cX4_nails 51 = .ok (.aload_n 0, 1) := by decide +kernel
theorem dX4_nails_52 : decode cX4_nails 52 = .ok (.getfield 7, 3) := by decide +kernel
theorem dX4_nails_55 : decode cX4_nails 55 = .ok (.iconst 2, 1) := by decide +kernel
theorem dX4_nails_56 : decode cX4_nails 56 = .ok (.iaload, 1) := by decide +kernel
theorem dX4_nails_57 : decode cX4_nails 57 = .ok (.istore_n 3, 1) := by decide +kernel
theorem dX4_nails_58 : decode cX4_nails 58 = .ok (.aload_n 0, 1) := by decide +kernel
theorem dX4_nails_59 : decode cX4_nails 59 = .ok (.getfield 7, 3) := by decide +kernel
theorem dX4_nails_62 : decode cX4_nails 62 = .ok (.bipush 15, 2) := by decide +kernel
theorem dX4_nails_64 : decode cX4_nails 64 = .ok (.iaload, 1) := by decide +kernel
theorem dX4_nails_65 : decode cX4_nails 65 = .ok (.ifCond .le 10, 3) := by decide +kernel
theorem dX4_nails_68 : decode cX4_nails 68 = .ok (.aload_n 0, 1) := by decide +kernel
theorem dX4_nails_69 : decode cX4_nails 69 = .ok (.invokevirtual 124, 3) := by decide +kernel
theorem dX4_nails_72 : decode cX4_nails 72 = .ok (.goto (-14), 3) := by decide +kernel
theorem dX4_nails_75 : decode cX4_nails 75 = .ok (.aload_n 0, 1) := by decide +kernel
theorem dX4_nails_76 : decode cX4_nails 76 = .ok (.getfield 7, 3) := by decide +kernel
theorem dX4_nails_79 : decode cX4_nails 79 = .ok (.iconst 0, 1) := by decide +kernel
theorem dX4_nails_80 : decode cX4_nails 80 = .ok (.iload_n 1, 1) := by decide +kernel
theorem dX4_nails_81 : decode cX4_nails 81 = .ok (.iastore, 1) := by decide +kernel
theorem dX4_nails_82 : decode cX4_nails 82 = .ok (.aload_n 0, 1) := by decide +kernel
theorem dX4_nails_83 : decode cX4_nails 83 = .ok (.getfield 7, 3) := by decide +kernel
theorem dX4_nails_86 : decode cX4_nails 86 = .ok (.iconst 1, 1) := by decide +kernel
theorem dX4_nails_87 : decode cX4_nails 87 = .ok (.iconst 0, 1) := by decide +kernel
theorem dX4_nails_88 : decode cX4_nails 88 = .ok (.iastore, 1) := by decide +kernel
theorem dX4_nails_89 : decode cX4_nails 89 = .ok (.aload_n 0, 1) := by decide +kernel
theorem dX4_nails_90 : decode cX4_nails 90 = .ok (.getfield 7, 3) := by decide +kernel
theorem dX4_nails_93 : decode cX4_nails 93 = .ok (.iconst 2, 1) := by decide +kernel
theorem dX4_nails_94 : decode cX4_nails 94 = .ok (.iload_n 3, 1) := by decide +kernel
theorem dX4_nails_95 : decode cX4_nails 95 = .ok (.iastore, 1) := by decide +kernel
theorem dX4_nails_96 : decode cX4_nails 96 = .ok (.iload_n 2, 1) := by decide +kernel
theorem dX4_nails_97 : decode cX4_nails 97 = .ok (.ireturn, 1) := by decide +kernel
theorem dX4_chordsOf_0 : decode cX4_chordsOf 0 = .ok (.iconst 0, 1) := by decide +kernel
theorem dX4_chordsOf_1 : decode cX4_chordsOf 1 = .ok (.istore_n 2, 1) := by decide +kernel
theorem dX4_chordsOf_2 : decode cX4_chordsOf 2 = .ok (.iconst 0, 1) := by decide +kernel
theorem dX4_chordsOf_3 : decode cX4_chordsOf 3 = .ok (.istore_n 3, 1) := by decide +kernel
theorem dX4_chordsOf_4 : decode cX4_chordsOf 4 = .ok (.iload_n 3, 1) := by decide +kernel
theorem dX4_chordsOf_5 : decode cX4_chordsOf 5 = .ok (.aload_n 0, 1) := by decide +kernel
theorem dX4_chordsOf_6 : decode cX4_chordsOf 6 = .ok (.getfield 7, 3) := by decide +kernel
theorem dX4_chordsOf_9 : decode cX4_chordsOf 9 = .ok (.bipush 15, 2) := by decide +kernel
theorem dX4_chordsOf_11 : decode cX4_chordsOf 11 = .ok (.iaload, 1) := by decide +kernel
theorem dX4_chordsOf_12 : decode cX4_chordsOf 12 = .ok (.if_icmp .ge 27, 3) := by decide +kernel
theorem dX4_chordsOf_15 : decode cX4_chordsOf 15 = .ok (.iload_n 2, 1) := by decide +kernel
theorem dX4_chordsOf_16 : decode cX4_chordsOf 16 = .ok (.aload_n 0, 1) := by decide +kernel
theorem dX4_chordsOf_17 : decode cX4_chordsOf 17 = .ok (.iload_n 3, 1) := by decide +kernel
theorem dX4_chordsOf_18 : decode cX4_chordsOf 18 = .ok (.iconst 2, 1) := by decide +kernel
theorem dX4_chordsOf_19 : decode cX4_chordsOf 19 = .ok (.invokevirtual 78, 3) := by decide +kernel
theorem dX4_chordsOf_22 : decode cX4_chordsOf 22 = .ok (.iload_n 1, 1) := by decide +kernel
theorem dX4_chordsOf_23 : decode cX4_chordsOf 23 = .ok (.if_icmp .ne 7, 3) := by decide +kernel
theorem dX4_chordsOf_26 : decode cX4_chordsOf 26 = .ok (.iconst 1, 1) := by decide +kernel
theorem dX4_chordsOf_27 : decode cX4_chordsOf 27 = .ok (.goto 4, 3) := by decide +kernel
theorem dX4_chordsOf_30 : decode cX4_chordsOf 30 = .ok (.iconst 0, 1) := by decide +kernel
theorem dX4_chordsOf_31 : decode cX4_chordsOf 31 = .ok (.iadd, 1) := by decide +kernel
theorem dX4_chordsOf_32 : decode cX4_chordsOf 32 = .ok (.istore_n 2, 1) := by decide +kernel
theorem dX4_chordsOf_33 : decode cX4_chordsOf 33 = .ok (.iinc 3 1, 3) := by decide +kernel
theorem dX4_chordsOf_36 : decode cX4_chordsOf 36 = .ok (.goto (-32), 3) := by decide +kernel
theorem dX4_chordsOf_39 : decode cX4_chordsOf 39 = .ok (.iload_n 2, 1) := by decide +kernel
theorem dX4_chordsOf_40 : decode cX4_chordsOf 40 = .ok (.ireturn, 1) := by decide +kernel
theorem dX4_spool_0 : decode cX4_spool 0 = .ok (.aload_n 0, 1) := by decide +kernel
theorem dX4_spool_1 : decode cX4_spool 1 = .ok (.iconst 0, 1) := by decide +kernel
theorem dX4_spool_2 : decode cX4_spool 2 = .ok (.putfield 35, 3) := by decide +kernel
theorem dX4_spool_5 : decode cX4_spool 5 = .ok (.iload_n 1, 1) := by decide +kernel
theorem dX4_spool_6 : decode cX4_spool 6 = .ok (.invokestatic 127, 3) := by decide +kernel
theorem dX4_spool_9 : decode cX4_spool 9 = .ok (.ifCond .ne 9, 3) := by decide +kernel
theorem dX4_spool_12 : decode cX4_spool 12 = .ok (.aload_n 0, 1) := by decide +kernel
theorem dX4_spool_13 : decode cX4_spool 13 = .ok (.iconst 1, 1) := by decide +kernel
theorem dX4_spool_14 : decode cX4_spool 14 = .ok (.invokevirtual 118, 3) := by decide +kernel
theorem dX4_spool_17 : decode cX4_spool 17 = .ok (.ireturn, 1) := by decide +kernel
theorem dX4_spool_18 : decode cX4_spool 18 = .ok (.iload_n 2, 1) := by decide +kernel
theorem dX4_spool_19 : decode cX4_spool 19 = .ok (.iconst 1, 1) := by decide +kernel
theorem dX4_spool_20 : decode cX4_spool 20 = .ok (.bipush 9, 2) := by decide +kernel
theorem dX4_spool_22 : decode cX4_spool 22 = .ok (.invokestatic 42, 3) := by decide +kernel
theorem dX4_spool_25 : decode cX4_spool 25 = .ok (.ifCond .eq 14, 3) := by decide +kernel
theorem dX4_spool_28 : decode cX4_spool 28 = .ok (.iload_n 3, 1) := by decide +kernel
theorem dX4_spool_29 : decode cX4_spool 29 = .ok (.iconst 0, 1) := by decide +kernel
theorem dX4_spool_30 : decode cX4_spool 30 = .ok (.sipush 9999, 3) := by decide +kernel
theorem dX4_spool_33 : decode cX4_spool 33 = .ok (.invokestatic 42, 3) := by decide +kernel
theorem dX4_spool_36 : decode cX4_spool 36 = .ok (.ifCond .ne 9, 3) := by decide +kernel
theorem dX4_spool_39 : decode cX4_spool 39 = .ok (.aload_n 0, 1) := by decide +kernel
theorem dX4_spool_40 : decode cX4_spool 40 = .ok (.iconst 2, 1) := by decide +kernel
theorem dX4_spool_41 : decode cX4_spool 41 = .ok (.invokevirtual 118, 3) := by decide +kernel
theorem dX4_spool_44 : decode cX4_spool 44 = .ok (.ireturn, 1) := by decide +kernel
theorem dX4_spool_45 : decode cX4_spool 45 = .ok (.iload_n 1, 1) := by decide +kernel
theorem dX4_spool_46 : decode cX4_spool 46 = .ok (.aload_n 0, 1) := by decide +kernel
theorem dX4_spool_47 : decode cX4_spool 47 = .ok (.getfield 7, 3) := by decide +kernel
theorem dX4_spool_50 : decode cX4_spool 50 = .ok (.iconst 2, 1) := by decide +kernel
theorem dX4_spool_51 : decode cX4_spool 51 = .ok (.iaload, 1) := by decide +kernel
theorem dX4_spool_52 : decode cX4_spool 52 = .ok (.if_icmp .eq 11, 3) := by decide +kernel
theorem dX4_spool_55 : decode cX4_spool 55 = .ok (.aload_n 0, 1) := by decide +kernel
theorem dX4_spool_56 : decode cX4_spool 56 = .ok (.iload_n 1, 1) := by decide +kernel
theorem dX4_spool_57 : decode cX4_spool 57 = .ok (.invokevirtual 131, 3) := by decide +kernel
theorem dX4_spool_60 : decode cX4_spool 60 = .ok (.ifCond .le 9, 3) := by decide +kernel
theorem dX4_spool_63 : decode cX4_spool 63 = .ok (.aload_n 0, 1) := by decide +kernel
theorem dX4_spool_64 : decode cX4_spool 64 = .ok (.iconst 3, 1) := by decide +kernel
theorem dX4_spool_65 : decode cX4_spool 65 = .ok (.invokevirtual 118, 3) := by decide +kernel
theorem dX4_spool_68 : decode cX4_spool 68 = .ok (.ireturn, 1) := by decide +kernel
theorem dX4_spool_69 : decode cX4_spool 69 = .ok (.aload_n 0, 1) := by decide +kernel
theorem dX4_spool_70 : decode cX4_spool 70 = .ok (.invokevirtual 121, 3) := by decide +kernel
theorem dX4_spool_73 : decode cX4_spool 73 = .ok (.aload_n 0, 1) := by decide +kernel
theorem dX4_spool_74 : decode cX4_spool 74 = .ok (.iload_n 1, 1) := by decide +kernel
theorem dX4_spool_75 : decode cX4_spool 75 = .ok (.invokevirtual 101, 3) := by decide +kernel
theorem dX4_spool_78 : decode cX4_spool 78 = .ok (.istore 4, 2) := by decide +kernel
theorem dX4_spool_80 : decode cX4_spool 80 = .ok (.aload_n 0, 1) := by decide +kernel
theorem dX4_spool_81 : decode cX4_spool 81 = .ok (.getfield 7, 3) := by decide +kernel
theorem dX4_spool_84 : decode cX4_spool 84 = .ok (.bipush 9, 2) := by decide +kernel
theorem dX4_spool_86 : decode cX4_spool 86 = .ok (.iconst 2, 1) := by decide +kernel
theorem dX4_spool_87 : decode cX4_spool 87 = .ok (.iload_n 1, 1) := by decide +kernel
theorem dX4_spool_88 : decode cX4_spool 88 = .ok (.imul, 1) := by decide +kernel
theorem dX4_spool_89 : decode cX4_spool 89 = .ok (.iadd, 1) := by decide +kernel
theorem dX4_spool_90 : decode cX4_spool 90 = .ok (.iload_n 2, 1) := by decide +kernel
theorem dX4_spool_91 : decode cX4_spool 91 = .ok (.iastore, 1) := by decide +kernel
theorem dX4_spool_92 : decode cX4_spool 92 = .ok (.aload_n 0, 1) := by decide +kernel
theorem dX4_spool_93 : decode cX4_spool 93 = .ok (.getfield 7, 3) := by decide +kernel
theorem dX4_spool_96 : decode cX4_spool 96 = .ok (.bipush 9, 2) := by decide +kernel
theorem dX4_spool_98 : decode cX4_spool 98 = .ok (.iconst 2, 1) := by decide +kernel
theorem dX4_spool_99 : decode cX4_spool 99 = .ok (.iload_n 1, 1) := by decide +kernel
theorem dX4_spool_100 : decode cX4_spool 100 = .ok (.imul, 1) := by decide +kernel
theorem dX4_spool_101 : decode cX4_spool 101 = .ok (.iadd, 1) := by decide +kernel
theorem dX4_spool_102 : decode cX4_spool 102 = .ok (.iconst 1, 1) := by decide +kernel
theorem dX4_spool_103 : decode cX4_spool 103 = .ok (.iadd, 1) := by decide +kernel
theorem dX4_spool_104 : decode cX4_spool 104 = .ok (.iload_n 3, 1) := by decide +kernel
theorem dX4_spool_105 : decode cX4_spool 105 = .ok (.iastore, 1) := by decide +kernel
theorem dX4_spool_106 : decode cX4_spool 106 = .ok (.iload 4, 2) := by decide +kernel
theorem dX4_spool_108 : decode cX4_spool 108 = .ok (.ireturn, 1) := by decide +kernel
theorem dX4_knot_0 : decode cX4_knot 0 = .ok (.aload_n 0, 1) := by decide +kernel
theorem dX4_knot_1 : decode cX4_knot 1 = .ok (.iconst 0, 1) := by decide +kernel
theorem dX4_knot_2 : decode cX4_knot 2 = .ok (.putfield 35, 3) := by decide +kernel
theorem dX4_knot_5 : decode cX4_knot 5 = .ok (.iload_n 1, 1) := by decide +kernel
theorem dX4_knot_6 : decode cX4_knot 6 = .ok (.invokestatic 127, 3) := by decide +kernel
theorem dX4_knot_9 : decode cX4_knot 9 = .ok (.ifCond .ne 9, 3) := by decide +kernel
theorem dX4_knot_12 : decode cX4_knot 12 = .ok (.aload_n 0, 1) := by decide +kernel
theorem dX4_knot_13 : decode cX4_knot 13 = .ok (.iconst 1, 1) := by decide +kernel
theorem dX4_knot_14 : decode cX4_knot 14 = .ok (.invokevirtual 118, 3) := by decide +kernel
theorem dX4_knot_17 : decode cX4_knot 17 = .ok (.ireturn, 1) := by decide +kernel
theorem dX4_knot_18 : decode cX4_knot 18 = .ok (.iload_n 1, 1) := by decide +kernel
theorem dX4_knot_19 : decode cX4_knot 19 = .ok (.aload_n 0, 1) := by decide +kernel
theorem dX4_knot_20 : decode cX4_knot 20 = .ok (.getfield 7, 3) := by decide +kernel
theorem dX4_knot_23 : decode cX4_knot 23 = .ok (.iconst 2, 1) := by decide +kernel
theorem dX4_knot_24 : decode cX4_knot 24 = .ok (.iaload, 1) := by decide +kernel
theorem dX4_knot_25 : decode cX4_knot 25 = .ok (.if_icmp .ne 9, 3) := by decide +kernel
theorem dX4_knot_28 : decode cX4_knot 28 = .ok (.aload_n 0, 1) := by decide +kernel
theorem dX4_knot_29 : decode cX4_knot 29 = .ok (.iconst 2, 1) := by decide +kernel
theorem dX4_knot_30 : decode cX4_knot 30 = .ok (.invokevirtual 118, 3) := by decide +kernel
theorem dX4_knot_33 : decode cX4_knot 33 = .ok (.ireturn, 1) := by decide +kernel
theorem dX4_knot_34 : decode cX4_knot 34 = .ok (.aload_n 0, 1) := by decide +kernel
theorem dX4_knot_35 : decode cX4_knot 35 = .ok (.invokevirtual 121, 3) := by decide +kernel
theorem dX4_knot_38 : decode cX4_knot 38 = .ok (.aload_n 0, 1) := by decide +kernel
theorem dX4_knot_39 : decode cX4_knot 39 = .ok (.getfield 7, 3) := by decide +kernel
theorem dX4_knot_42 : decode cX4_knot 42 = .ok (.iconst 2, 1) := by decide +kernel
theorem dX4_knot_43 : decode cX4_knot 43 = .ok (.iload_n 1, 1) := by decide +kernel
theorem dX4_knot_44 : decode cX4_knot 44 = .ok (.iastore, 1) := by decide +kernel
theorem dX4_knot_45 : decode cX4_knot 45 = .ok (.aload_n 0, 1) := by decide +kernel
theorem dX4_knot_46 : decode cX4_knot 46 = .ok (.getfield 7, 3) := by decide +kernel
theorem dX4_knot_49 : decode cX4_knot 49 = .ok (.iconst 5, 1) := by decide +kernel
theorem dX4_knot_50 : decode cX4_knot 50 = .ok (.dup2, 1) := by decide +kernel
theorem dX4_knot_51 : decode cX4_knot 51 = .ok (.iaload, 1) := by decide +kernel
theorem dX4_knot_52 : decode cX4_knot 52 = .ok (.iconst 1, 1) := by decide +kernel
theorem dX4_knot_53 : decode cX4_knot 53 = .ok (.iadd, 1) := by decide +kernel
theorem dX4_knot_54 : decode cX4_knot 54 = .ok (.iastore, 1) := by decide +kernel
theorem dX4_knot_55 : decode cX4_knot 55 = .ok (.aload_n 0, 1) := by decide +kernel
theorem dX4_knot_56 : decode cX4_knot 56 = .ok (.getfield 7, 3) := by decide +kernel
theorem dX4_knot_59 : decode cX4_knot 59 = .ok (.iconst 5, 1) := by decide +kernel
theorem dX4_knot_60 : decode cX4_knot 60 = .ok (.iaload, 1) := by decide +kernel
theorem dX4_knot_61 : decode cX4_knot 61 = .ok (.ireturn, 1) := by decide +kernel
theorem dX4_set_0 : decode cX4_set 0 = .ok (.aload_n 0, 1) := by decide +kernel
theorem dX4_set_1 : decode cX4_set 1 = .ok (.iconst 0, 1) := by decide +kernel
theorem dX4_set_2 : decode cX4_set 2 = .ok (.putfield 35, 3) := by decide +kernel
theorem dX4_set_5 : decode cX4_set 5 = .ok (.iload_n 1, 1) := by decide +kernel
theorem dX4_set_6 : decode cX4_set 6 = .ok (.iconst 0, 1) := by decide +kernel
theorem dX4_set_7 : decode cX4_set 7 = .ok (.iconst 2, 1) := by decide +kernel
theorem dX4_set_8 : decode cX4_set 8 = .ok (.invokestatic 42, 3) := by decide +kernel
theorem dX4_set_11 : decode cX4_set 11 = .ok (.ifCond .ne 9, 3) := by decide +kernel
theorem dX4_set_14 : decode cX4_set 14 = .ok (.aload_n 0, 1) := by decide +kernel
theorem dX4_set_15 : decode cX4_set 15 = .ok (.iconst 1, 1) := by decide +kernel
theorem dX4_set_16 : decode cX4_set 16 = .ok (.invokevirtual 118, 3) := by decide +kernel
theorem dX4_set_19 : decode cX4_set 19 = .ok (.ireturn, 1) := by decide +kernel
theorem dX4_set_20 : decode cX4_set 20 = .ok (.iload_n 2, 1) := by decide +kernel
theorem dX4_set_21 : decode cX4_set 21 = .ok (.iconst 1, 1) := by decide +kernel
theorem dX4_set_22 : decode cX4_set 22 = .ok (.iload_n 1, 1) := by decide +kernel
theorem dX4_set_23 : decode cX4_set 23 = .ok (.ifCond .ne 8, 3) := by decide +kernel
theorem dX4_set_26 : decode cX4_set 26 = .ok (.bipush 6, 2) := by decide +kernel
theorem dX4_set_28 : decode cX4_set 28 = .ok (.goto 5, 3) := by decide +kernel
theorem dX4_set_31 : decode cX4_set 31 = .ok (.bipush 9, 2) := by decide +kernel
theorem dX4_set_33 : decode cX4_set 33 = .ok (.invokestatic 42, 3) := by decide +kernel
theorem dX4_set_36 : decode cX4_set 36 = .ok (.ifCond .ne 9, 3) := by decide +kernel
theorem dX4_set_39 : decode cX4_set 39 = .ok (.aload_n 0, 1) := by decide +kernel
theorem dX4_set_40 : decode cX4_set 40 = .ok (.iconst 2, 1) := by decide +kernel
theorem dX4_set_41 : decode cX4_set 41 = .ok (.invokevirtual 118, 3) := by decide +kernel
theorem dX4_set_44 : decode cX4_set 44 = .ok (.ireturn, 1) := by decide +kernel
theorem dX4_set_45 : decode cX4_set 45 = .ok (.aload_n 0, 1) := by decide +kernel
theorem dX4_set_46 : decode cX4_set 46 = .ok (.invokevirtual 121, 3) := by decide +kernel
theorem dX4_set_49 : decode cX4_set 49 = .ok (.aload_n 0, 1) := by decide +kernel
theorem dX4_set_50 : decode cX4_set 50 = .ok (.getfield 7, 3) := by decide +kernel
theorem dX4_set_53 : decode cX4_set 53 = .ok (.bipush 6, 2) := by decide +kernel
theorem dX4_set_55 : decode cX4_set 55 = .ok (.iload_n 1, 1) := by decide +kernel
theorem dX4_set_56 : decode cX4_set 56 = .ok (.iadd, 1) := by decide +kernel
theorem dX4_set_57 : decode cX4_set 57 = .ok (.iaload, 1) := by decide +kernel
theorem dX4_set_58 : decode cX4_set 58 = .ok (.istore_n 3, 1) := by decide +kernel
theorem dX4_set_59 : decode cX4_set 59 = .ok (.aload_n 0, 1) := by decide +kernel
theorem dX4_set_60 : decode cX4_set 60 = .ok (.getfield 7, 3) := by decide +kernel
theorem dX4_set_63 : decode cX4_set 63 = .ok (.bipush 6, 2) := by decide +kernel
theorem dX4_set_65 : decode cX4_set 65 = .ok (.iload_n 1, 1) := by decide +kernel
theorem dX4_set_66 : decode cX4_set 66 = .ok (.iadd, 1) := by decide +kernel
theorem dX4_set_67 : decode cX4_set 67 = .ok (.iload_n 2, 1) := by decide +kernel
theorem dX4_set_68 : decode cX4_set 68 = .ok (.iastore, 1) := by decide +kernel
theorem dX4_set_69 : decode cX4_set 69 = .ok (.iload_n 3, 1) := by decide +kernel
theorem dX4_set_70 : decode cX4_set 70 = .ok (.ireturn, 1) := by decide +kernel
theorem dX4_wind_0 : decode cX4_wind 0 = .ok (.aload_n 0, 1) := by decide +kernel
theorem dX4_wind_1 : decode cX4_wind 1 = .ok (.iconst 0, 1) := by decide +kernel
theorem dX4_wind_2 : decode cX4_wind 2 = .ok (.putfield 35, 3) := by decide +kernel
theorem dX4_wind_5 : decode cX4_wind 5 = .ok (.aload_n 0, 1) := by decide +kernel
theorem dX4_wind_6 : decode cX4_wind 6 = .ok (.iload_n 1, 1) := by decide +kernel
theorem dX4_wind_7 : decode cX4_wind 7 = .ok (.invokevirtual 134, 3) := by decide +kernel
theorem dX4_wind_10 : decode cX4_wind 10 = .ok (.ifCond .ne 9, 3) := by decide +kernel
theorem dX4_wind_13 : decode cX4_wind 13 = .ok (.aload_n 0, 1) := by decide +kernel
theorem dX4_wind_14 : decode cX4_wind 14 = .ok (.iconst 1, 1) := by decide +kernel
theorem dX4_wind_15 : decode cX4_wind 15 = .ok (.invokevirtual 118, 3) := by decide +kernel
theorem dX4_wind_18 : decode cX4_wind 18 = .ok (.ireturn, 1) := by decide +kernel
theorem dX4_wind_19 : decode cX4_wind 19 = .ok (.aload_n 0, 1) := by decide +kernel
theorem dX4_wind_20 : decode cX4_wind 20 = .ok (.getfield 7, 3) := by decide +kernel
theorem dX4_wind_23 : decode cX4_wind 23 = .ok (.bipush 15, 2) := by decide +kernel
theorem dX4_wind_25 : decode cX4_wind 25 = .ok (.iaload, 1) := by decide +kernel
theorem dX4_wind_26 : decode cX4_wind 26 = .ok (.sipush 200, 3) := by decide +kernel
theorem dX4_wind_29 : decode cX4_wind 29 = .ok (.if_icmp .ne 9, 3) := by decide +kernel
theorem dX4_wind_32 : decode cX4_wind 32 = .ok (.aload_n 0, 1) := by decide +kernel
theorem dX4_wind_33 : decode cX4_wind 33 = .ok (.iconst 2, 1) := by decide +kernel
theorem dX4_wind_34 : decode cX4_wind 34 = .ok (.invokevirtual 118, 3) := by decide +kernel
theorem dX4_wind_37 : decode cX4_wind 37 = .ok (.ireturn, 1) := by decide +kernel
theorem dX4_wind_38 : decode cX4_wind 38 = .ok (.aload_n 0, 1) := by decide +kernel
theorem dX4_wind_39 : decode cX4_wind 39 = .ok (.invokevirtual 121, 3) := by decide +kernel
theorem dX4_wind_42 : decode cX4_wind 42 = .ok (.aload_n 0, 1) := by decide +kernel
theorem dX4_wind_43 : decode cX4_wind 43 = .ok (.aload_n 0, 1) := by decide +kernel
theorem dX4_wind_44 : decode cX4_wind 44 = .ok (.getfield 7, 3) := by decide +kernel
theorem dX4_wind_47 : decode cX4_wind 47 = .ok (.iconst 1, 1) := by decide +kernel
theorem dX4_wind_48 : decode cX4_wind 48 = .ok (.iaload, 1) := by decide +kernel
theorem dX4_wind_49 : decode cX4_wind 49 = .ok (.iload_n 1, 1) := by decide +kernel
theorem dX4_wind_50 : decode cX4_wind 50 = .ok (.aload_n 0, 1) := by decide +kernel
theorem dX4_wind_51 : decode cX4_wind 51 = .ok (.getfield 7, 3) := by decide +kernel
theorem dX4_wind_54 : decode cX4_wind 54 = .ok (.iconst 2, 1) := by decide +kernel
theorem dX4_wind_55 : decode cX4_wind 55 = .ok (.iaload, 1) := by decide +kernel
theorem dX4_wind_56 : decode cX4_wind 56 = .ok (.invokevirtual 107, 3) := by decide +kernel
theorem dX4_wind_59 : decode cX4_wind 59 = .ok (.istore_n 2, 1) := by decide +kernel
theorem dX4_wind_60 : decode cX4_wind 60 = .ok (.iload_n 2, 1) := by decide +kernel
theorem dX4_wind_61 : decode cX4_wind 61 = .ok (.ifCond .eq 15, 3) := by decide +kernel
theorem dX4_wind_64 : decode cX4_wind 64 = .ok (.aload_n 0, 1) := by decide +kernel
theorem dX4_wind_65 : decode cX4_wind 65 = .ok (.getfield 7, 3) := by decide +kernel
theorem dX4_wind_68 : decode cX4_wind 68 = .ok (.iconst 4, 1) := by decide +kernel
theorem dX4_wind_69 : decode cX4_wind 69 = .ok (.dup2, 1) := by decide +kernel
theorem dX4_wind_70 : decode cX4_wind 70 = .ok (.iaload, 1) := by decide +kernel
theorem dX4_wind_71 : decode cX4_wind 71 = .ok (.iconst 1, 1) := by decide +kernel
theorem dX4_wind_72 : decode cX4_wind 72 = .ok (.iadd, 1) := by decide +kernel
theorem dX4_wind_73 : decode cX4_wind 73 = .ok (.iastore, 1) := by decide +kernel
theorem dX4_wind_74 : decode cX4_wind 74 = .ok (.iload_n 2, 1) := by decide +kernel
theorem dX4_wind_75 : decode cX4_wind 75 = .ok (.ireturn, 1) := by decide +kernel
theorem dX4_wind_76 : decode cX4_wind 76 = .ok (.aload_n 0, 1) := by decide +kernel
theorem dX4_wind_77 : decode cX4_wind 77 = .ok (.iload_n 1, 1) := by decide +kernel
theorem dX4_wind_78 : decode cX4_wind 78 = .ok (.invokevirtual 137, 3) := by decide +kernel
theorem dX4_wind_81 : decode cX4_wind 81 = .ok (.aload_n 0, 1) := by decide +kernel
theorem dX4_wind_82 : decode cX4_wind 82 = .ok (.getfield 7, 3) := by decide +kernel
theorem dX4_wind_85 : decode cX4_wind 85 = .ok (.iconst 3, 1) := by decide +kernel
theorem dX4_wind_86 : decode cX4_wind 86 = .ok (.dup2, 1) := by decide +kernel
theorem dX4_wind_87 : decode cX4_wind 87 = .ok (.iaload, 1) := by decide +kernel
theorem dX4_wind_88 : decode cX4_wind 88 = .ok (.iconst 1, 1) := by decide +kernel
theorem dX4_wind_89 : decode cX4_wind 89 = .ok (.iadd, 1) := by decide +kernel
theorem dX4_wind_90 : decode cX4_wind 90 = .ok (.iastore, 1) := by decide +kernel
theorem dX4_wind_91 : decode cX4_wind 91 = .ok (.iconst 0, 1) := by decide +kernel
theorem dX4_wind_92 : decode cX4_wind 92 = .ok (.ireturn, 1) := by decide +kernel
theorem dX4_unwind_0 : decode cX4_unwind 0 = .ok (.aload_n 0, 1) := by decide +kernel
theorem dX4_unwind_1 : decode cX4_unwind 1 = .ok (.iconst 0, 1) := by decide +kernel
theorem dX4_unwind_2 : decode cX4_unwind 2 = .ok (.putfield 35, 3) := by decide +kernel
theorem dX4_unwind_5 : decode cX4_unwind 5 = .ok (.aload_n 0, 1) := by decide +kernel
theorem dX4_unwind_6 : decode cX4_unwind 6 = .ok (.getfield 7, 3) := by decide +kernel
theorem dX4_unwind_9 : decode cX4_unwind 9 = .ok (.bipush 15, 2) := by decide +kernel
theorem dX4_unwind_11 : decode cX4_unwind 11 = .ok (.iaload, 1) := by decide +kernel
theorem dX4_unwind_12 : decode cX4_unwind 12 = .ok (.ifCond .ne 9, 3) := by decide +kernel
theorem dX4_unwind_15 : decode cX4_unwind 15 = .ok (.aload_n 0, 1) := by decide +kernel
theorem dX4_unwind_16 : decode cX4_unwind 16 = .ok (.iconst 1, 1) := by decide +kernel
theorem dX4_unwind_17 : decode cX4_unwind 17 = .ok (.invokevirtual 118, 3) := by decide +kernel
theorem dX4_unwind_20 : decode cX4_unwind 20 = .ok (.ireturn, 1) := by decide +kernel
theorem dX4_unwind_21 : decode cX4_unwind 21 = .ok (.aload_n 0, 1) := by decide +kernel
theorem dX4_unwind_22 : decode cX4_unwind 22 = .ok (.invokevirtual 121, 3) := by decide +kernel
theorem dX4_unwind_25 : decode cX4_unwind 25 = .ok (.aload_n 0, 1) := by decide +kernel
theorem dX4_unwind_26 : decode cX4_unwind 26 = .ok (.invokevirtual 124, 3) := by decide +kernel
theorem dX4_unwind_29 : decode cX4_unwind 29 = .ok (.aload_n 0, 1) := by decide +kernel
theorem dX4_unwind_30 : decode cX4_unwind 30 = .ok (.getfield 7, 3) := by decide +kernel
theorem dX4_unwind_33 : decode cX4_unwind 33 = .ok (.iconst 1, 1) := by decide +kernel
theorem dX4_unwind_34 : decode cX4_unwind 34 = .ok (.iaload, 1) := by decide +kernel
theorem dX4_unwind_35 : decode cX4_unwind 35 = .ok (.ireturn, 1) := by decide +kernel
theorem dX4_hasGain_0 : decode cX4_hasGain 0 = .ok (.iload_n 1, 1) := by decide +kernel
theorem dX4_hasGain_1 : decode cX4_hasGain 1 = .ok (.iconst (-1), 1) := by decide +kernel
theorem dX4_hasGain_2 : decode cX4_hasGain 2 = .ok (.if_icmp .eq 31, 3) := by decide +kernel
theorem dX4_hasGain_5 : decode cX4_hasGain 5 = .ok (.aload_n 0, 1) := by decide +kernel
theorem dX4_hasGain_6 : decode cX4_hasGain 6 = .ok (.aload_n 0, 1) := by decide +kernel
theorem dX4_hasGain_7 : decode cX4_hasGain 7 = .ok (.getfield 7, 3) := by decide +kernel
theorem dX4_hasGain_10 : decode cX4_hasGain 10 = .ok (.iconst 1, 1) := by decide +kernel
theorem dX4_hasGain_11 : decode cX4_hasGain 11 = .ok (.iaload, 1) := by decide +kernel
theorem dX4_hasGain_12 : decode cX4_hasGain 12 = .ok (.iload_n 1, 1) := by decide +kernel
theorem dX4_hasGain_13 : decode cX4_hasGain 13 = .ok (.aload_n 0, 1) := by decide +kernel
theorem dX4_hasGain_14 : decode cX4_hasGain 14 = .ok (.aload_n 0, 1) := by decide +kernel
theorem dX4_hasGain_15 : decode cX4_hasGain 15 = .ok (.getfield 7, 3) := by decide +kernel
theorem dX4_hasGain_18 : decode cX4_hasGain 18 = .ok (.iconst 2, 1) := by decide +kernel
theorem dX4_hasGain_19 : decode cX4_hasGain 19 = .ok (.iaload, 1) := by decide +kernel
theorem dX4_hasGain_20 : decode cX4_hasGain 20 = .ok (.invokevirtual 88, 3) := by decide +kernel
theorem dX4_hasGain_23 : decode cX4_hasGain 23 = .ok (.invokevirtual 111, 3) := by decide +kernel
theorem dX4_hasGain_26 : decode cX4_hasGain 26 = .ok (.ifCond .le 7, 3) := by decide +kernel
theorem dX4_hasGain_29 : decode cX4_hasGain 29 = .ok (.iconst 1, 1) := by decide +kernel
theorem dX4_hasGain_30 : decode cX4_hasGain 30 = .ok (.goto 4, 3) := by decide +kernel
theorem dX4_hasGain_33 : decode cX4_hasGain 33 = .ok (.iconst 0, 1) := by decide +kernel
theorem dX4_hasGain_34 : decode cX4_hasGain 34 = .ok (.ireturn, 1) := by decide +kernel
theorem dX4_windBest_0 : decode cX4_windBest 0 = .ok (.aload_n 0, 1) := by decide +kernel
theorem dX4_windBest_1 : decode cX4_windBest 1 = .ok (.iconst 0, 1) := by decide +kernel
theorem dX4_windBest_2 : decode cX4_windBest 2 = .ok (.putfield 35, 3) := by decide +kernel
theorem dX4_windBest_5 : decode cX4_windBest 5 = .ok (.iload_n 1, 1) := by decide +kernel
theorem dX4_windBest_6 : decode cX4_windBest 6 = .ok (.iconst 1, 1) := by decide +kernel
theorem dX4_windBest_7 : decode cX4_windBest 7 = .ok (.bipush 50, 2) := by decide +kernel
theorem dX4_windBest_9 : decode cX4_windBest 9 = .ok (.invokestatic 42, 3) := by decide +kernel
theorem dX4_windBest_12 : decode cX4_windBest 12 = .ok (.ifCond .ne 9, 3) := by decide +kernel
theorem dX4_windBest_15 : decode cX4_windBest 15 = .ok (.aload_n 0, 1) := by decide +kernel
theorem dX4_windBest_16 : decode cX4_windBest 16 = .ok (.iconst 1, 1) := by decide +kernel
theorem dX4_windBest_17 : decode cX4_windBest 17 = .ok (.invokevirtual 118, 3) := by decide +kernel
theorem dX4_windBest_20 : decode cX4_windBest 20 = .ok (.ireturn, 1) := by decide +kernel
theorem dX4_windBest_21 : decode cX4_windBest 21 = .ok (.aload_n 0, 1) := by decide +kernel
theorem dX4_windBest_22 : decode cX4_windBest 22 = .ok (.invokevirtual 121, 3) := by decide +kernel
theorem dX4_windBest_25 : decode cX4_windBest 25 = .ok (.iconst 0, 1) := by decide +kernel
theorem dX4_windBest_26 : decode cX4_windBest 26 = .ok (.istore_n 2, 1) := by decide +kernel
theorem dX4_windBest_27 : decode cX4_windBest 27 = .ok (.aload_n 0, 1) := by decide +kernel
theorem dX4_windBest_28 : decode cX4_windBest 28 = .ok (.aload_n 0, 1) := by decide +kernel
theorem dX4_windBest_29 : decode cX4_windBest 29 = .ok (.getfield 7, 3) := by decide +kernel
theorem dX4_windBest_32 : decode cX4_windBest 32 = .ok (.iconst 2, 1) := by decide +kernel
theorem dX4_windBest_33 : decode cX4_windBest 33 = .ok (.iaload, 1) := by decide +kernel
theorem dX4_windBest_34 : decode cX4_windBest 34 = .ok (.invokevirtual 141, 3) := by decide +kernel
theorem dX4_windBest_37 : decode cX4_windBest 37 = .ok (.istore_n 3, 1) := by decide +kernel
theorem dX4_windBest_38 : decode cX4_windBest 38 = .ok (.iload_n 2, 1) := by decide +kernel
theorem dX4_windBest_39 : decode cX4_windBest 39 = .ok (.iload_n 1, 1) := by decide +kernel
theorem dX4_windBest_40 : decode cX4_windBest 40 = .ok (.if_icmp .ge 56, 3) := by decide +kernel
theorem dX4_windBest_43 : decode cX4_windBest 43 = .ok (.aload_n 0, 1) := by decide +kernel
theorem dX4_windBest_44 : decode cX4_windBest 44 = .ok (.getfield 7, 3) := by decide +kernel
theorem dX4_windBest_47 : decode cX4_windBest 47 = .ok (.bipush 15, 2) := by decide +kernel
theorem dX4_windBest_49 : decode cX4_windBest 49 = .ok (.iaload, 1) := by decide +kernel
theorem dX4_windBest_50 : decode cX4_windBest 50 = .ok (.sipush 200, 3) := by decide +kernel
theorem dX4_windBest_53 : decode cX4_windBest 53 = .ok (.if_icmp .ge 43, 3) := by decide +kernel
theorem dX4_windBest_56 : decode cX4_windBest 56 = .ok (.aload_n 0, 1) := by decide +kernel
theorem dX4_windBest_57 : decode cX4_windBest 57 = .ok (.iload_n 3, 1) := by decide +kernel
theorem dX4_windBest_58 : decode cX4_windBest 58 = .ok (.invokevirtual 144, 3) := by decide +kernel
theorem dX4_windBest_61 : decode cX4_windBest 61 = .ok (.ifCond .eq 35, 3) := by decide +kernel
theorem dX4_windBest_64 : decode cX4_windBest 64 = .ok (.aload_n 0, 1) := by decide +kernel
theorem dX4_windBest_65 : decode cX4_windBest 65 = .ok (.iload_n 3, 1) := by decide +kernel
theorem dX4_windBest_66 : decode cX4_windBest 66 = .ok (.invokevirtual 137, 3) := by decide +kernel
theorem dX4_windBest_69 : decode cX4_windBest 69 = .ok (.aload_n 0, 1) := by decide +kernel
theorem dX4_windBest_70 : decode cX4_windBest 70 = .ok (.getfield 7, 3) := by decide +kernel
theorem dX4_windBest_73 : decode cX4_windBest 73 = .ok (.iconst 3, 1) := by decide +kernel
theorem dX4_windBest_74 : decode cX4_windBest 74 = .ok (.dup2, 1) := by decide +kernel
theorem dX4_windBest_75 : decode cX4_windBest 75 = .ok (.iaload, 1) := by decide +kernel
theorem dX4_windBest_76 : decode cX4_windBest 76 = .ok (.iconst 1, 1) := by decide +kernel
theorem dX4_windBest_77 : decode cX4_windBest 77 = .ok (.iadd, 1) := by decide +kernel
theorem dX4_windBest_78 : decode cX4_windBest 78 = .ok (.iastore, 1) := by decide +kernel
theorem dX4_windBest_79 : decode cX4_windBest 79 = .ok (.iinc 2 1, 3) := by decide +kernel
theorem dX4_windBest_82 : decode cX4_windBest 82 = .ok (.aload_n 0, 1) := by decide +kernel
theorem dX4_windBest_83 : decode cX4_windBest 83 = .ok (.aload_n 0, 1) := by decide +kernel
theorem dX4_windBest_84 : decode cX4_windBest 84 = .ok (.getfield 7, 3) := by decide +kernel
theorem dX4_windBest_87 : decode cX4_windBest 87 = .ok (.iconst 2, 1) := by decide +kernel
theorem dX4_windBest_88 : decode cX4_windBest 88 = .ok (.iaload, 1) := by decide +kernel
theorem dX4_windBest_89 : decode cX4_windBest 89 = .ok (.invokevirtual 141, 3) := by decide +kernel
theorem dX4_windBest_92 : decode cX4_windBest 92 = .ok (.istore_n 3, 1) := by decide +kernel
theorem dX4_windBest_93 : decode cX4_windBest 93 = .ok (.goto (-55), 3) := by decide +kernel
theorem dX4_windBest_96 : decode cX4_windBest 96 = .ok (.iload_n 2, 1) := by decide +kernel
theorem dX4_windBest_97 : decode cX4_windBest 97 = .ok (.ireturn, 1) := by decide +kernel
theorem dX4_want_0 : decode cX4_want 0 = .ok (.aload_n 0, 1) := by decide +kernel
theorem dX4_want_1 : decode cX4_want 1 = .ok (.iconst 0, 1) := by decide +kernel
theorem dX4_want_2 : decode cX4_want 2 = .ok (.putfield 35, 3) := by decide +kernel
theorem dX4_want_5 : decode cX4_want 5 = .ok (.iload_n 1, 1) := by decide +kernel
theorem dX4_want_6 : decode cX4_want 6 = .ok (.iload_n 2, 1) := by decide +kernel
theorem dX4_want_7 : decode cX4_want 7 = .ok (.invokestatic 147, 3) := by decide +kernel
theorem dX4_want_10 : decode cX4_want 10 = .ok (.ifCond .ne 9, 3) := by decide +kernel
theorem dX4_want_13 : decode cX4_want 13 = .ok (.aload_n 0, 1) := by decide +kernel
theorem dX4_want_14 : decode cX4_want 14 = .ok (.iconst 1, 1) := by decide +kernel
theorem dX4_want_15 : decode cX4_want 15 = .ok (.invokevirtual 118, 3) := by decide +kernel
theorem dX4_want_18 : decode cX4_want 18 = .ok (.ireturn, 1) := by decide +kernel
theorem dX4_want_19 : decode cX4_want 19 = .ok (.iload_n 3, 1) := by decide +kernel
theorem dX4_want_20 : decode cX4_want 20 = .ok (.iconst 0, 1) := by decide +kernel
theorem dX4_want_21 : decode cX4_want 21 = .ok (.bipush 9, 2) := by decide +kernel
theorem dX4_want_23 : decode cX4_want 23 = .ok (.invokestatic 42, 3) := by decide +kernel
theorem dX4_want_26 : decode cX4_want 26 = .ok (.ifCond .ne 9, 3) := by decide +kernel
theorem dX4_want_29 : decode cX4_want 29 = .ok (.aload_n 0, 1) := by decide +kernel
theorem dX4_want_30 : decode cX4_want 30 = .ok (.iconst 2, 1) := by decide +kernel
theorem dX4_want_31 : decode cX4_want 31 = .ok (.invokevirtual 118, 3) := by decide +kernel
theorem dX4_want_34 : decode cX4_want 34 = .ok (.ireturn, 1) := by decide +kernel
theorem dX4_want_35 : decode cX4_want 35 = .ok (.aload_n 0, 1) := by decide +kernel
theorem dX4_want_36 : decode cX4_want 36 = .ok (.invokevirtual 121, 3) := by decide +kernel
theorem dX4_want_39 : decode cX4_want 39 = .ok (.aload_n 0, 1) := by decide +kernel
theorem dX4_want_40 : decode cX4_want 40 = .ok (.getfield 7, 3) := by decide +kernel
theorem dX4_want_43 : decode cX4_want 43 = .ok (.sipush 616, 3) := by decide +kernel
theorem dX4_want_46 : decode cX4_want 46 = .ok (.bipush 12, 2) := by decide +kernel
theorem dX4_want_48 : decode cX4_want 48 = .ok (.iload_n 2, 1) := by decide +kernel
theorem dX4_want_49 : decode cX4_want 49 = .ok (.imul, 1) := by decide +kernel
theorem dX4_want_50 : decode cX4_want 50 = .ok (.iadd, 1) := by decide +kernel
theorem dX4_want_51 : decode cX4_want 51 = .ok (.iload_n 1, 1) := by decide +kernel
theorem dX4_want_52 : decode cX4_want 52 = .ok (.iadd, 1) := by decide +kernel
theorem dX4_want_53 : decode cX4_want 53 = .ok (.iaload, 1) := by decide +kernel
theorem dX4_want_54 : decode cX4_want 54 = .ok (.istore 4, 2) := by decide +kernel
theorem dX4_want_56 : decode cX4_want 56 = .ok (.aload_n 0, 1) := by decide +kernel
theorem dX4_want_57 : decode cX4_want 57 = .ok (.getfield 7, 3) := by decide +kernel
theorem dX4_want_60 : decode cX4_want 60 = .ok (.sipush 616, 3) := by decide +kernel
theorem dX4_want_63 : decode cX4_want 63 = .ok (.bipush 12, 2) := by decide +kernel
theorem dX4_want_65 : decode cX4_want 65 = .ok (.iload_n 2, 1) := by decide +kernel
theorem dX4_want_66 : decode cX4_want 66 = .ok (.imul, 1) := by decide +kernel
theorem dX4_want_67 : decode cX4_want 67 = .ok (.iadd, 1) := by decide +kernel
theorem dX4_want_68 : decode cX4_want 68 = .ok (.iload_n 1, 1) := by decide +kernel
theorem dX4_want_69 : decode cX4_want 69 = .ok (.iadd, 1) := by decide +kernel
theorem dX4_want_70 : decode cX4_want 70 = .ok (.iload_n 3, 1) := by decide +kernel
theorem dX4_want_71 : decode cX4_want 71 = .ok (.iastore, 1) := by decide +kernel
theorem dX4_want_72 : decode cX4_want 72 = .ok (.iload 4, 2) := by decide +kernel
theorem dX4_want_74 : decode cX4_want 74 = .ok (.ireturn, 1) := by decide +kernel
theorem dX4_keepsGreys_0 : decode cX4_keepsGreys 0 = .ok (.iconst 0, 1) := by decide +kernel
theorem dX4_keepsGreys_1 : decode cX4_keepsGreys 1 = .ok (.istore_n 1, 1) := by decide +kernel
theorem dX4_keepsGreys_2 : decode cX4_keepsGreys 2 = .ok (.iload_n 1, 1) := by decide +kernel
theorem dX4_keepsGreys_3 : decode cX4_keepsGreys 3 = .ok (.sipush 144, 3) := by decide +kernel
theorem dX4_keepsGreys_6 : decode cX4_keepsGreys 6 = .ok (.if_icmp .ge 25, 3) := by decide +kernel
theorem dX4_keepsGreys_9 : decode cX4_keepsGreys 9 = .ok (.aload_n 0, 1) := by decide +kernel
theorem dX4_keepsGreys_10 : decode cX4_keepsGreys 10 = .ok (.getfield 32, 3) := by decide +kernel
theorem dX4_keepsGreys_13 : decode cX4_keepsGreys 13 = .ok (.iload_n 1, 1) := by decide +kernel
theorem dX4_keepsGreys_14 : decode cX4_keepsGreys 14 = .ok (.aload_n 0, 1) := by decide +kernel
theorem dX4_keepsGreys_15 : decode cX4_keepsGreys 15 = .ok (.getfield 7, 3) := by decide +kernel
theorem dX4_keepsGreys_18 : decode cX4_keepsGreys 18 = .ok (.sipush 616, 3) := by decide +kernel
theorem dX4_keepsGreys_21 : decode cX4_keepsGreys 21 = .ok (.iload_n 1, 1) := by decide +kernel
theorem dX4_keepsGreys_22 : decode cX4_keepsGreys 22 = .ok (.iadd, 1) := by decide +kernel
theorem dX4_keepsGreys_23 : decode cX4_keepsGreys 23 = .ok (.iaload, 1) := by decide +kernel
theorem dX4_keepsGreys_24 : decode cX4_keepsGreys 24 = .ok (.iastore, 1) := by decide +kernel
theorem dX4_keepsGreys_25 : decode cX4_keepsGreys 25 = .ok (.iinc 1 1, 3) := by decide +kernel
theorem dX4_keepsGreys_28 : decode cX4_keepsGreys 28 = .ok (.goto (-26), 3) := by decide +kernel
theorem dX4_keepsGreys_31 : decode cX4_keepsGreys 31 = .ok (.return_, 1) := by decide +kernel
theorem dX4_turns_0 : decode cX4_turns 0 = .ok (.iload_n 1, 1) := by decide +kernel
theorem dX4_turns_1 : decode cX4_turns 1 = .ok (.bipush 12, 2) := by decide +kernel
theorem dX4_turns_3 : decode cX4_turns 3 = .ok (.irem, 1) := by decide +kernel
theorem dX4_turns_4 : decode cX4_turns 4 = .ok (.istore_n 3, 1) := by decide +kernel
theorem dX4_turns_5 : decode cX4_turns 5 = .ok (.iload_n 1, 1) := by decide +kernel
theorem dX4_turns_6 : decode cX4_turns 6 = .ok (.bipush 12, 2) := by decide +kernel
theorem dX4_turns_8 : decode cX4_turns 8 = .ok (.idiv, 1) := by decide +kernel
theorem dX4_turns_9 : decode cX4_turns 9 = .ok (.istore 4, 2) := by decide +kernel
theorem dX4_turns_11 : decode cX4_turns 11 = .ok (.iload_n 2, 1) := by decide +kernel
theorem dX4_turns_12 : decode cX4_turns 12 = .ok (.ifCond .ne 16, 3) := by decide +kernel
theorem dX4_turns_15 : decode cX4_turns 15 = .ok (.bipush 12, 2) := by decide +kernel
theorem dX4_turns_17 : decode cX4_turns 17 = .ok (.iload_n 3, 1) := by decide +kernel
theorem dX4_turns_18 : decode cX4_turns 18 = .ok (.imul, 1) := by decide +kernel
theorem dX4_turns_19 : decode cX4_turns 19 = .ok (.bipush 11, 2) := by decide +kernel
theorem dX4_turns_21 : decode cX4_turns 21 = .ok (.iadd, 1) := by decide +kernel
theorem dX4_turns_22 : decode cX4_turns 22 = .ok (.iload 4, 2) := by decide +kernel
theorem dX4_turns_24 : decode cX4_turns 24 = .ok (.isub, 1) := by decide +kernel
theorem dX4_turns_25 : decode cX4_turns 25 = .ok (.goto 22, 3) := by decide +kernel
theorem dX4_turns_28 : decode cX4_turns 28 = .ok (.iload_n 2, 1) := by decide +kernel
theorem dX4_turns_29 : decode cX4_turns 29 = .ok (.iconst 1, 1) := by decide +kernel
theorem dX4_turns_30 : decode cX4_turns 30 = .ok (.if_icmp .ne 16, 3) := by decide +kernel
theorem dX4_turns_33 : decode cX4_turns 33 = .ok (.bipush 12, 2) := by decide +kernel
theorem dX4_turns_35 : decode cX4_turns 35 = .ok (.iload 4, 2) := by decide +kernel
theorem dX4_turns_37 : decode cX4_turns 37 = .ok (.imul, 1) := by decide +kernel
theorem dX4_turns_38 : decode cX4_turns 38 = .ok (.bipush 11, 2) := by decide +kernel
theorem dX4_turns_40 : decode cX4_turns 40 = .ok (.iadd, 1) := by decide +kernel
theorem dX4_turns_41 : decode cX4_turns 41 = .ok (.iload_n 3, 1) := by decide +kernel
theorem dX4_turns_42 : decode cX4_turns 42 = .ok (.isub, 1) := by decide +kernel
theorem dX4_turns_43 : decode cX4_turns 43 = .ok (.goto 4, 3) := by decide +kernel
theorem dX4_turns_46 : decode cX4_turns 46 = .ok (.iload_n 1, 1) := by decide +kernel
theorem dX4_turns_47 : decode cX4_turns 47 = .ok (.istore 5, 2) := by decide +kernel
theorem dX4_turns_49 : decode cX4_turns 49 = .ok (.aload_n 0, 1) := by decide +kernel
theorem dX4_turns_50 : decode cX4_turns 50 = .ok (.getfield 7, 3) := by decide +kernel
theorem dX4_turns_53 : decode cX4_turns 53 = .ok (.sipush 616, 3) := by decide +kernel
theorem dX4_turns_56 : decode cX4_turns 56 = .ok (.iload 5, 2) := by decide +kernel
theorem dX4_turns_58 : decode cX4_turns 58 = .ok (.iadd, 1) := by decide +kernel
theorem dX4_turns_59 : decode cX4_turns 59 = .ok (.iload_n 2, 1) := by decide +kernel
theorem dX4_turns_60 : decode cX4_turns 60 = .ok (.iconst 2, 1) := by decide +kernel
theorem dX4_turns_61 : decode cX4_turns 61 = .ok (.if_icmp .ne 15, 3) := by decide +kernel
theorem dX4_turns_64 : decode cX4_turns 64 = .ok (.bipush 9, 2) := by decide +kernel
theorem dX4_turns_66 : decode cX4_turns 66 = .ok (.aload_n 0, 1) := by decide +kernel
theorem dX4_turns_67 : decode cX4_turns 67 = .ok (.getfield 32, 3) := by decide +kernel
theorem dX4_turns_70 : decode cX4_turns 70 = .ok (.iload_n 1, 1) := by decide +kernel
theorem dX4_turns_71 : decode cX4_turns 71 = .ok (.iaload, 1) := by decide +kernel
theorem dX4_turns_72 : decode cX4_turns 72 = .ok (.isub, 1) := by decide +kernel
theorem dX4_turns_73 : decode cX4_turns 73 = .ok (.goto 9, 3) := by decide +kernel
theorem dX4_turns_76 : decode cX4_turns 76 = .ok (.aload_n 0, 1) := by decide +kernel
theorem dX4_turns_77 : decode cX4_turns 77 = .ok (.getfield 32, 3) := by decide +kernel
theorem dX4_turns_80 : decode cX4_turns 80 = .ok (.iload_n 1, 1) := by decide +kernel
theorem dX4_turns_81 : decode cX4_turns 81 = .ok (.iaload, 1) := by decide +kernel
theorem dX4_turns_82 : decode cX4_turns 82 = .ok (.iastore, 1) := by decide +kernel
theorem dX4_turns_83 : decode cX4_turns 83 = .ok (.return_, 1) := by decide +kernel
theorem dX4_turnFace_0 : decode cX4_turnFace 0 = .ok (.aload_n 0, 1) := by decide +kernel
theorem dX4_turnFace_1 : decode cX4_turnFace 1 = .ok (.iconst 0, 1) := by decide +kernel
theorem dX4_turnFace_2 : decode cX4_turnFace 2 = .ok (.putfield 35, 3) := by decide +kernel
theorem dX4_turnFace_5 : decode cX4_turnFace 5 = .ok (.iload_n 1, 1) := by decide +kernel
theorem dX4_turnFace_6 : decode cX4_turnFace 6 = .ok (.iconst 0, 1) := by decide +kernel
theorem dX4_turnFace_7 : decode cX4_turnFace 7 = .ok (.iconst 2, 1) := by decide +kernel
theorem dX4_turnFace_8 : decode cX4_turnFace 8 = .ok (.invokestatic 42, 3) := by decide +kernel
theorem dX4_turnFace_11 : decode cX4_turnFace 11 = .ok (.ifCond .ne 9, 3) := by decide +kernel
theorem dX4_turnFace_14 : decode cX4_turnFace 14 = .ok (.aload_n 0, 1) := by decide +kernel
theorem dX4_turnFace_15 : decode cX4_turnFace 15 = .ok (.iconst 1, 1) := by decide +kernel
theorem dX4_turnFace_16 : decode cX4_turnFace 16 = .ok (.invokevirtual 118, 3) := by decide +kernel
theorem dX4_turnFace_19 : decode cX4_turnFace 19 = .ok (.ireturn, 1) := by decide +kernel
theorem dX4_turnFace_20 : decode cX4_turnFace 20 = .ok (.aload_n 0, 1) := by decide +kernel
theorem dX4_turnFace_21 : decode cX4_turnFace 21 = .ok (.invokevirtual 121, 3) := by decide +kernel
theorem dX4_turnFace_24 : decode cX4_turnFace 24 = .ok (.aload_n 0, 1) := by decide +kernel
theorem dX4_turnFace_25 : decode cX4_turnFace 25 = .ok (.invokevirtual 150, 3) := by decide +kernel
theorem dX4_turnFace_28 : decode cX4_turnFace 28 = .ok (.iconst 0, 1) := by decide +kernel
theorem dX4_turnFace_29 : decode cX4_turnFace 29 = .ok (.istore_n 2, 1) := by decide +kernel
theorem dX4_turnFace_30 : decode cX4_turnFace 30 = .ok (.iload_n 2, 1) := by decide +kernel
theorem dX4_turnFace_31 : decode cX4_turnFace 31 = .ok (.sipush 144, 3) := by decide +kernel
theorem dX4_turnFace_34 : decode cX4_turnFace 34 = .ok (.if_icmp .ge 15, 3) := by decide +kernel
theorem dX4_turnFace_37 : decode cX4_turnFace 37 = .ok (.aload_n 0, 1) := by decide +kernel
theorem dX4_turnFace_38 : decode cX4_turnFace 38 = .ok (.iload_n 2, 1) := by decide +kernel
theorem dX4_turnFace_39 : decode cX4_turnFace 39 = .ok (.iload_n 1, 1) := by decide +kernel
theorem dX4_turnFace_40 : decode cX4_turnFace 40 = .ok (.invokevirtual 153, 3) := by decide +kernel
theorem dX4_turnFace_43 : decode cX4_turnFace 43 = .ok (.iinc 2 1, 3) := by decide +kernel
theorem dX4_turnFace_46 : decode cX4_turnFace 46 = .ok (.goto (-16), 3) := by decide +kernel
theorem dX4_turnFace_49 : decode cX4_turnFace 49 = .ok (.aload_n 0, 1) := by decide +kernel
theorem dX4_turnFace_50 : decode cX4_turnFace 50 = .ok (.invokevirtual 156, 3) := by decide +kernel
theorem dX4_turnFace_53 : decode cX4_turnFace 53 = .ok (.ireturn, 1) := by decide +kernel
theorem dX4_append_0 : decode cX4_append 0 = .ok (.aload_n 0, 1) := by decide +kernel
theorem dX4_append_1 : decode cX4_append 1 = .ok (.iconst 0, 1) := by decide +kernel
theorem dX4_append_2 : decode cX4_append 2 = .ok (.putfield 35, 3) := by decide +kernel
theorem dX4_append_5 : decode cX4_append 5 = .ok (.iload_n 1, 1) := by decide +kernel
theorem dX4_append_6 : decode cX4_append 6 = .ok (.bipush 33, 2) := by decide +kernel
theorem dX4_append_8 : decode cX4_append 8 = .ok (.bipush 126, 2) := by decide +kernel
theorem dX4_append_10 : decode cX4_append 10 = .ok (.invokestatic 42, 3) := by decide +kernel
theorem dX4_append_13 : decode cX4_append 13 = .ok (.ifCond .ne 9, 3) := by decide +kernel
theorem dX4_append_16 : decode cX4_append 16 = .ok (.aload_n 0, 1) := by decide +kernel
theorem dX4_append_17 : decode cX4_append 17 = .ok (.iconst 1, 1) := by decide +kernel
theorem dX4_append_18 : decode cX4_append 18 = .ok (.invokevirtual 118, 3) := by decide +kernel
theorem dX4_append_21 : decode cX4_append 21 = .ok (.ireturn, 1) := by decide +kernel
theorem dX4_append_22 : decode cX4_append 22 = .ok (.aload_n 0, 1) := by decide +kernel
theorem dX4_append_23 : decode cX4_append 23 = .ok (.getfield 160, 3) := by decide +kernel
theorem dX4_append_26 : decode cX4_append 26 = .ok (.bipush 60, 2) := by decide +kernel
