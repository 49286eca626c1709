theorem dX0_init_0 : decode cX0_init 0 = .ok (.aload_n 0, 1) := by decide +kernel
theorem dX0_init_1 : decode cX0_init 1 = .ok (.invokespecial 3, 3) := by decide +kernel
theorem dX0_init_4 : decode cX0_init 4 = .ok (.aload_n 0, 1) := by decide +kernel
theorem dX0_init_5 : decode cX0_init 5 = .ok (.iload_n 1, 1) := by decide +kernel
theorem dX0_init_6 : decode cX0_init 6 = .ok (.putfield 9, 3) := by decide +kernel
theorem dX0_init_9 : decode cX0_init 9 = .ok (.aload_n 0, 1) := by decide +kernel
theorem dX0_init_10 : decode cX0_init 10 = .ok (.aload_n 2, 1) := by decide +kernel
theorem dX0_init_11 : decode cX0_init 11 = .ok (.putfield 15, 3) := by decide +kernel
theorem dX0_init_14 : decode cX0_init 14 = .ok (.return_, 1) := by decide +kernel
theorem dX0_xOf_0 : decode cX0_xOf 0 = .ok (.iload_n 0, 1) := by decide +kernel
theorem dX0_xOf_1 : decode cX0_xOf 1 = .ok (.ifCond .lt 9, 3) := by decide +kernel
theorem dX0_xOf_4 : decode cX0_xOf 4 = .ok (.iload_n 0, 1) := by decide +kernel
theorem dX0_xOf_5 : decode cX0_xOf 5 = .ok (.bipush 24, 2) := by decide +kernel
theorem dX0_xOf_7 : decode cX0_xOf 7 = .ok (.if_icmp .lt 8, 3) := by decide +kernel
theorem dX0_xOf_10 : decode cX0_xOf 10 = .ok (.bipush 60, 2) := by decide +kernel
theorem dX0_xOf_12 : decode cX0_xOf 12 = .ok (.goto 11, 3) := by decide +kernel
theorem dX0_xOf_15 : decode cX0_xOf 15 = .ok (.bipush 60, 2) := by decide +kernel
theorem dX0_xOf_17 : decode cX0_xOf 17 = .ok (.getstatic 19, 3) := by decide +kernel
theorem dX0_xOf_20 : decode cX0_xOf 20 = .ok (.iload_n 0, 1) := by decide +kernel
theorem dX0_xOf_21 : decode cX0_xOf 21 = .ok (.iaload, 1) := by decide +kernel
theorem dX0_xOf_22 : decode cX0_xOf 22 = .ok (.iadd, 1) := by decide +kernel
theorem dX0_xOf_23 : decode cX0_xOf 23 = .ok (.ireturn, 1) := by decide +kernel
theorem dX0_yOf_0 : decode cX0_yOf 0 = .ok (.iload_n 0, 1) := by decide +kernel
theorem dX0_yOf_1 : decode cX0_yOf 1 = .ok (.ifCond .lt 9, 3) := by decide +kernel
theorem dX0_yOf_4 : decode cX0_yOf 4 = .ok (.iload_n 0, 1) := by decide +kernel
theorem dX0_yOf_5 : decode cX0_yOf 5 = .ok (.bipush 24, 2) := by decide +kernel
theorem dX0_yOf_7 : decode cX0_yOf 7 = .ok (.if_icmp .lt 8, 3) := by decide +kernel
theorem dX0_yOf_10 : decode cX0_yOf 10 = .ok (.bipush 60, 2) := by decide +kernel
theorem dX0_yOf_12 : decode cX0_yOf 12 = .ok (.goto 17, 3) := by decide +kernel
theorem dX0_yOf_15 : decode cX0_yOf 15 = .ok (.bipush 60, 2) := by decide +kernel
theorem dX0_yOf_17 : decode cX0_yOf 17 = .ok (.getstatic 19, 3) := by decide +kernel
theorem dX0_yOf_20 : decode cX0_yOf 20 = .ok (.iload_n 0, 1) := by decide +kernel
theorem dX0_yOf_21 : decode cX0_yOf 21 = .ok (.bipush 18, 2) := by decide +kernel
theorem dX0_yOf_23 : decode cX0_yOf 23 = .ok (.iadd, 1) := by decide +kernel
theorem dX0_yOf_24 : decode cX0_yOf 24 = .ok (.bipush 24, 2) := by decide +kernel
theorem dX0_yOf_26 : decode cX0_yOf 26 = .ok (.irem, 1) := by decide +kernel
theorem dX0_yOf_27 : decode cX0_yOf 27 = .ok (.iaload, 1) := by decide +kernel
theorem dX0_yOf_28 : decode cX0_yOf 28 = .ok (.iadd, 1) := by decide +kernel
theorem dX0_yOf_29 : decode cX0_yOf 29 = .ok (.ireturn, 1) := by decide +kernel
theorem dX0_pairOf_0 : decode cX0_pairOf 0 = .ok (.iload_n 0, 1) := by decide +kernel
theorem dX0_pairOf_1 : decode cX0_pairOf 1 = .ok (.iload_n 1, 1) := by decide +kernel
theorem dX0_pairOf_2 : decode cX0_pairOf 2 = .ok (.invokestatic 22, 3) := by decide +kernel
theorem dX0_pairOf_5 : decode cX0_pairOf 5 = .ok (.istore_n 2, 1) := by decide +kernel
theorem dX0_pairOf_6 : decode cX0_pairOf 6 = .ok (.iload_n 0, 1) := by decide +kernel
theorem dX0_pairOf_7 : decode cX0_pairOf 7 = .ok (.iload_n 1, 1) := by decide +kernel
theorem dX0_pairOf_8 : decode cX0_pairOf 8 = .ok (.invokestatic 28, 3) := by decide +kernel
theorem dX0_pairOf_11 : decode cX0_pairOf 11 = .ok (.istore_n 3, 1) := by decide +kernel
theorem dX0_pairOf_12 : decode cX0_pairOf 12 = .ok (.iload_n 2, 1) := by decide +kernel
theorem dX0_pairOf_13 : decode cX0_pairOf 13 = .ok (.ifCond .lt 14, 3) := by decide +kernel
theorem dX0_pairOf_16 : decode cX0_pairOf 16 = .ok (.iload_n 2, 1) := by decide +kernel
theorem dX0_pairOf_17 : decode cX0_pairOf 17 = .ok (.iload_n 3, 1) := by decide +kernel
theorem dX0_pairOf_18 : decode cX0_pairOf 18 = .ok (.if_icmp .eq 9, 3) := by decide +kernel
theorem dX0_pairOf_21 : decode cX0_pairOf 21 = .ok (.iload_n 3, 1) := by decide +kernel
theorem dX0_pairOf_22 : decode cX0_pairOf 22 = .ok (.bipush 24, 2) := by decide +kernel
theorem dX0_pairOf_24 : decode cX0_pairOf 24 = .ok (.if_icmp .lt 5, 3) := by decide +kernel
theorem dX0_pairOf_27 : decode cX0_pairOf 27 = .ok (.iconst (-1), 1) := by decide +kernel
theorem dX0_pairOf_28 : decode cX0_pairOf 28 = .ok (.ireturn, 1) := by decide +kernel
theorem dX0_pairOf_29 : decode cX0_pairOf 29 = .ok (.iload_n 3, 1) := by decide +kernel
theorem dX0_pairOf_30 : decode cX0_pairOf 30 = .ok (.iload_n 3, 1) := by decide +kernel
theorem dX0_pairOf_31 : decode cX0_pairOf 31 = .ok (.iconst 1, 1) := by decide +kernel
theorem dX0_pairOf_32 : decode cX0_pairOf 32 = .ok (.isub, 1) := by decide +kernel
theorem dX0_pairOf_33 : decode cX0_pairOf 33 = .ok (.imul, 1) := by decide +kernel
theorem dX0_pairOf_34 : decode cX0_pairOf 34 = .ok (.iconst 2, 1) := by decide +kernel
theorem dX0_pairOf_35 : decode cX0_pairOf 35 = .ok (.idiv, 1) := by decide +kernel
theorem dX0_pairOf_36 : decode cX0_pairOf 36 = .ok (.iload_n 2, 1) := by decide +kernel
theorem dX0_pairOf_37 : decode cX0_pairOf 37 = .ok (.iadd, 1) := by decide +kernel
theorem dX0_pairOf_38 : decode cX0_pairOf 38 = .ok (.ireturn, 1) := by decide +kernel
theorem dX0_trace_0 : decode cX0_trace 0 = .ok (.iload_n 0, 1) := by decide +kernel
theorem dX0_trace_1 : decode cX0_trace 1 = .ok (.invokestatic 31, 3) := by decide +kernel
theorem dX0_trace_4 : decode cX0_trace 4 = .ok (.istore_n 2, 1) := by decide +kernel
theorem dX0_trace_5 : decode cX0_trace 5 = .ok (.iload_n 0, 1) := by decide +kernel
theorem dX0_trace_6 : decode cX0_trace 6 = .ok (.invokestatic 35, 3) := by decide +kernel
theorem dX0_trace_9 : decode cX0_trace 9 = .ok (.istore_n 3, 1) := by decide +kernel
theorem dX0_trace_10 : decode cX0_trace 10 = .ok (.iload_n 1, 1) := by decide +kernel
theorem dX0_trace_11 : decode cX0_trace 11 = .ok (.invokestatic 31, 3) := by decide +kernel
theorem dX0_trace_14 : decode cX0_trace 14 = .ok (.iload_n 2, 1) := by decide +kernel
theorem dX0_trace_15 : decode cX0_trace 15 = .ok (.isub, 1) := by decide +kernel
theorem dX0_trace_16 : decode cX0_trace 16 = .ok (.istore 4, 2) := by decide +kernel
theorem dX0_trace_18 : decode cX0_trace 18 = .ok (.iload_n 1, 1) := by decide +kernel
theorem dX0_trace_19 : decode cX0_trace 19 = .ok (.invokestatic 35, 3) := by decide +kernel
theorem dX0_trace_22 : decode cX0_trace 22 = .ok (.iload_n 3, 1) := by decide +kernel
theorem dX0_trace_23 : decode cX0_trace 23 = .ok (.isub, 1) := by decide +kernel
theorem dX0_trace_24 : decode cX0_trace 24 = .ok (.istore 5, 2) := by decide +kernel
theorem dX0_trace_26 : decode cX0_trace 26 = .ok (.iload 4, 2) := by decide +kernel
theorem dX0_trace_28 : decode cX0_trace 28 = .ok (.invokestatic 38, 3) := by decide +kernel
theorem dX0_trace_31 : decode cX0_trace 31 = .ok (.iload 5, 2) := by decide +kernel
theorem dX0_trace_33 : decode cX0_trace 33 = .ok (.invokestatic 38, 3) := by decide +kernel
theorem dX0_trace_36 : decode cX0_trace 36 = .ok (.invokestatic 28, 3) := by decide +kernel
theorem dX0_trace_39 : decode cX0_trace 39 = .ok (.istore 6, 2) := by decide +kernel
theorem dX0_trace_41 : decode cX0_trace 41 = .ok (.bipush 23, 2) := by decide +kernel
theorem dX0_trace_43 : decode cX0_trace 43 = .ok (.newarray .int, 2) := by decide +kernel
theorem dX0_trace_45 : decode cX0_trace 45 = .ok (.astore 7, 2) := by decide +kernel
theorem dX0_trace_47 : decode cX0_trace 47 = .ok (.iconst 0, 1) := by decide +kernel
theorem dX0_trace_48 : decode cX0_trace 48 = .ok (.istore 8, 2) := by decide +kernel
theorem dX0_trace_50 : decode cX0_trace 50 = .ok (.iconst 0, 1) := by decide +kernel
theorem dX0_trace_51 : decode cX0_trace 51 = .ok (.istore 9, 2) := by decide +kernel
theorem dX0_trace_53 : decode cX0_trace 53 = .ok (.iload 9, 2) := by decide +kernel
theorem dX0_trace_55 : decode cX0_trace 55 = .ok (.iload 6, 2) := by decide +kernel
theorem dX0_trace_57 : decode cX0_trace 57 = .ok (.if_icmp .gt 98, 3) := by decide +kernel
theorem dX0_trace_60 : decode cX0_trace 60 = .ok (.iload 6, 2) := by decide +kernel
theorem dX0_trace_62 : decode cX0_trace 62 = .ok (.ifCond .le 93, 3) := by decide +kernel
theorem dX0_trace_65 : decode cX0_trace 65 = .ok (.iload_n 2, 1) := by decide +kernel
theorem dX0_trace_66 : decode cX0_trace 66 = .ok (.iload 4, 2) := by decide +kernel
theorem dX0_trace_68 : decode cX0_trace 68 = .ok (.iload 9, 2) := by decide +kernel
theorem dX0_trace_70 : decode cX0_trace 70 = .ok (.imul, 1) := by decide +kernel
theorem dX0_trace_71 : decode cX0_trace 71 = .ok (.iload 6, 2) := by decide +kernel
theorem dX0_trace_73 : decode cX0_trace 73 = .ok (.idiv, 1) := by decide +kernel
theorem dX0_trace_74 : decode cX0_trace 74 = .ok (.iadd, 1) := by decide +kernel
theorem dX0_trace_75 : decode cX0_trace 75 = .ok (.bipush 10, 2) := by decide +kernel
theorem dX0_trace_77 : decode cX0_trace 77 = .ok (.idiv, 1) := by decide +kernel
theorem dX0_trace_78 : decode cX0_trace 78 = .ok (.bipush 11, 2) := by decide +kernel
theorem dX0_trace_80 : decode cX0_trace 80 = .ok (.invokestatic 22, 3) := by decide +kernel
theorem dX0_trace_83 : decode cX0_trace 83 = .ok (.istore 10, 2) := by decide +kernel
theorem dX0_trace_85 : decode cX0_trace 85 = .ok (.iload_n 3, 1) := by decide +kernel
theorem dX0_trace_86 : decode cX0_trace 86 = .ok (.iload 5, 2) := by decide +kernel
theorem dX0_trace_88 : decode cX0_trace 88 = .ok (.iload 9, 2) := by decide +kernel
theorem dX0_trace_90 : decode cX0_trace 90 = .ok (.imul, 1) := by decide +kernel
theorem dX0_trace_91 : decode cX0_trace 91 = .ok (.iload 6, 2) := by decide +kernel
theorem dX0_trace_93 : decode cX0_trace 93 = .ok (.idiv, 1) := by decide +kernel
theorem dX0_trace_94 : decode cX0_trace 94 = .ok (.iadd, 1) := by decide +kernel
theorem dX0_trace_95 : decode cX0_trace 95 = .ok (.bipush 10, 2) := by decide +kernel
theorem dX0_trace_97 : decode cX0_trace 97 = .ok (.idiv, 1) := by decide +kernel
theorem dX0_trace_98 : decode cX0_trace 98 = .ok (.bipush 11, 2) := by decide +kernel
theorem dX0_trace_100 : decode cX0_trace 100 = .ok (.invokestatic 22, 3) := by decide +kernel
theorem dX0_trace_103 : decode cX0_trace 103 = .ok (.istore 11, 2) := by decide +kernel
theorem dX0_trace_105 : decode cX0_trace 105 = .ok (.iload 11, 2) := by decide +kernel
theorem dX0_trace_107 : decode cX0_trace 107 = .ok (.bipush 12, 2) := by decide +kernel
theorem dX0_trace_109 : decode cX0_trace 109 = .ok (.imul, 1) := by decide +kernel
theorem dX0_trace_110 : decode cX0_trace 110 = .ok (.iload 10, 2) := by decide +kernel
theorem dX0_trace_112 : decode cX0_trace 112 = .ok (.iadd, 1) := by decide +kernel
theorem dX0_trace_113 : decode cX0_trace 113 = .ok (.istore 12, 2) := by decide +kernel
theorem dX0_trace_115 : decode cX0_trace 115 = .ok (.iload 8, 2) := by decide +kernel
theorem dX0_trace_117 : decode cX0_trace 117 = .ok (.ifCond .eq 15, 3) := by decide +kernel
theorem dX0_trace_120 : decode cX0_trace 120 = .ok (.aload 7, 2) := by decide +kernel
theorem dX0_trace_122 : decode cX0_trace 122 = .ok (.iload 8, 2) := by decide +kernel
theorem dX0_trace_124 : decode cX0_trace 124 = .ok (.iconst 1, 1) := by decide +kernel
theorem dX0_trace_125 : decode cX0_trace 125 = .ok (.isub, 1) := by decide +kernel
theorem dX0_trace_126 : decode cX0_trace 126 = .ok (.iaload, 1) := by decide +kernel
theorem dX0_trace_127 : decode cX0_trace 127 = .ok (.iload 12, 2) := by decide +kernel
theorem dX0_trace_129 : decode cX0_trace 129 = .ok (.if_icmp .eq 20, 3) := by decide +kernel
theorem dX0_trace_132 : decode cX0_trace 132 = .ok (.iload 8, 2) := by decide +kernel
theorem dX0_trace_134 : decode cX0_trace 134 = .ok (.bipush 23, 2) := by decide +kernel
theorem dX0_trace_136 : decode cX0_trace 136 = .ok (.if_icmp .ge 13, 3) := by decide +kernel
theorem dX0_trace_139 : decode cX0_trace 139 = .ok (.aload 7, 2) := by decide +kernel
theorem dX0_trace_141 : decode cX0_trace 141 = .ok (.iload 8, 2) := by decide +kernel
theorem dX0_trace_143 : decode cX0_trace 143 = .ok (.iload 12, 2) := by decide +kernel
theorem dX0_trace_145 : decode cX0_trace 145 = .ok (.iastore, 1) := by decide +kernel
theorem dX0_trace_146 : decode cX0_trace 146 = .ok (.iinc 8 1, 3) := by decide +kernel
theorem dX0_trace_149 : decode cX0_trace 149 = .ok (.iinc 9 1, 3) := by decide +kernel
theorem dX0_trace_152 : decode cX0_trace 152 = .ok (.goto (-99), 3) := by decide +kernel
theorem dX0_trace_155 : decode cX0_trace 155 = .ok (.new 10, 3) := by decide +kernel
theorem dX0_trace_158 : decode cX0_trace 158 = .ok (.dup, 1) := by decide +kernel
theorem dX0_trace_159 : decode cX0_trace 159 = .ok (.iload 4, 2) := by decide +kernel
theorem dX0_trace_161 : decode cX0_trace 161 = .ok (.iload 4, 2) := by decide +kernel
theorem dX0_trace_163 : decode cX0_trace 163 = .ok (.imul, 1) := by decide +kernel
theorem dX0_trace_164 : decode cX0_trace 164 = .ok (.iload 5, 2) := by decide +kernel
theorem dX0_trace_166 : decode cX0_trace 166 = .ok (.iload 5, 2) := by decide +kernel
theorem dX0_trace_168 : decode cX0_trace 168 = .ok (.imul, 1) := by decide +kernel
theorem dX0_trace_169 : decode cX0_trace 169 = .ok (.iadd, 1) := by decide +kernel
theorem dX0_trace_170 : decode cX0_trace 170 = .ok (.invokestatic 41, 3) := by decide +kernel
theorem dX0_trace_173 : decode cX0_trace 173 = .ok (.aload 7, 2) := by decide +kernel
theorem dX0_trace_175 : decode cX0_trace 175 = .ok (.iload 8, 2) := by decide +kernel
theorem dX0_trace_177 : decode cX0_trace 177 = .ok (.invokestatic 44, 3) := by decide +kernel
theorem dX0_trace_180 : decode cX0_trace 180 = .ok (.invokespecial 50, 3) := by decide +kernel
theorem dX0_trace_183 : decode cX0_trace 183 = .ok (.areturn, 1) := by decide +kernel
theorem dX0_rootOf_0 : decode cX0_rootOf 0 = .ok (.iconst 0, 1) := by decide +kernel
theorem dX0_rootOf_1 : decode cX0_rootOf 1 = .ok (.istore_n 1, 1) := by decide +kernel
theorem dX0_rootOf_2 : decode cX0_rootOf 2 = .ok (.iload_n 1, 1) := by decide +kernel
theorem dX0_rootOf_3 : decode cX0_rootOf 3 = .ok (.sipush 240, 3) := by decide +kernel
theorem dX0_rootOf_6 : decode cX0_rootOf 6 = .ok (.if_icmp .ge 20, 3) := by decide +kernel
theorem dX0_rootOf_9 : decode cX0_rootOf 9 = .ok (.iload_n 1, 1) := by decide +kernel
theorem dX0_rootOf_10 : decode cX0_rootOf 10 = .ok (.iconst 1, 1) := by decide +kernel
theorem dX0_rootOf_11 : decode cX0_rootOf 11 = .ok (.iadd, 1) := by decide +kernel
theorem dX0_rootOf_12 : decode cX0_rootOf 12 = .ok (.iload_n 1, 1) := by decide +kernel
theorem dX0_rootOf_13 : decode cX0_rootOf 13 = .ok (.iconst 1, 1) := by decide +kernel
theorem dX0_rootOf_14 : decode cX0_rootOf 14 = .ok (.iadd, 1) := by decide +kernel
theorem dX0_rootOf_15 : decode cX0_rootOf 15 = .ok (.imul, 1) := by decide +kernel
theorem dX0_rootOf_16 : decode cX0_rootOf 16 = .ok (.iload_n 0, 1) := by decide +kernel
theorem dX0_rootOf_17 : decode cX0_rootOf 17 = .ok (.if_icmp .gt 9, 3) := by decide +kernel
theorem dX0_rootOf_20 : decode cX0_rootOf 20 = .ok (.iinc 1 1, 3) := by decide +kernel
theorem dX0_rootOf_23 : decode cX0_rootOf 23 = .ok (.goto (-21), 3) := by decide +kernel
theorem dX0_rootOf_26 : decode cX0_rootOf 26 = .ok (.iload_n 1, 1) := by decide +kernel
theorem dX0_rootOf_27 : decode cX0_rootOf 27 = .ok (.ireturn, 1) := by decide +kernel
theorem dX1_init_0 : decode cX1_init 0 = .ok (.aload_n 0, 1) := by decide +kernel
theorem dX1_init_1 : decode cX1_init 1 = .ok (.invokespecial 3, 3) := by decide +kernel
theorem dX1_init_4 : decode cX1_init 4 = .ok (.aload_n 0, 1) := by decide +kernel
theorem dX1_init_5 : decode cX1_init 5 = .ok (.bipush 12, 2) := by decide +kernel
theorem dX1_init_7 : decode cX1_init 7 = .ok (.putfield 9, 3) := by decide +kernel
theorem dX1_init_10 : decode cX1_init 10 = .ok (.aload_n 0, 1) := by decide +kernel
theorem dX1_init_11 : decode cX1_init 11 = .ok (.iconst 2, 1) := by decide +kernel
theorem dX1_init_12 : decode cX1_init 12 = .ok (.putfield 15, 3) := by decide +kernel
theorem dX1_init_15 : decode cX1_init 15 = .ok (.aload_n 0, 1) := by decide +kernel
theorem dX1_init_16 : decode cX1_init 16 = .ok (.iconst 3, 1) := by decide +kernel
theorem dX1_init_17 : decode cX1_init 17 = .ok (.newarray .int, 2) := by decide +kernel
theorem dX1_init_19 : decode cX1_init 19 = .ok (.dup, 1) := by decide +kernel
theorem dX1_init_20 : decode cX1_init 20 = .ok (.iconst 0, 1) := by decide +kernel
theorem dX1_init_21 : decode cX1_init 21 = .ok (.iconst 1, 1) := by decide +kernel
theorem dX1_init_22 : decode cX1_init 22 = .ok (.iastore, 1) := by decide +kernel
theorem dX1_init_23 : decode cX1_init 23 = .ok (.dup, 1) := by decide +kernel
theorem dX1_init_24 : decode cX1_init 24 = .ok (.iconst 1, 1) := by decide +kernel
theorem dX1_init_25 : decode cX1_init 25 = .ok (.iconst 2, 1) := by decide +kernel
theorem dX1_init_26 : decode cX1_init 26 = .ok (.iastore, 1) := by decide +kernel
theorem dX1_init_27 : decode cX1_init 27 = .ok (.dup, 1) := by decide +kernel
theorem dX1_init_28 : decode cX1_init 28 = .ok (.iconst 2, 1) := by decide +kernel
theorem dX1_init_29 : decode cX1_init 29 = .ok (.iconst 3, 1) := by decide +kernel
theorem dX1_init_30 : decode cX1_init 30 = .ok (.iastore, 1) := by decide +kernel
theorem dX1_init_31 : decode cX1_init 31 = .ok (.putfield 18, 3) := by decide +kernel
theorem dX1_init_34 : decode cX1_init 34 = .ok (.aload_n 0, 1) := by decide +kernel
theorem dX1_init_35 : decode cX1_init 35 = .ok (.iconst 3, 1) := by decide +kernel
theorem dX1_init_36 : decode cX1_init 36 = .ok (.newarray .int, 2) := by decide +kernel
theorem dX1_init_38 : decode cX1_init 38 = .ok (.dup, 1) := by decide +kernel
theorem dX1_init_39 : decode cX1_init 39 = .ok (.iconst 0, 1) := by decide +kernel
theorem dX1_init_40 : decode cX1_init 40 = .ok (.sipush 2000, 3) := by decide +kernel
theorem dX1_init_43 : decode cX1_init 43 = .ok (.iastore, 1) := by decide +kernel
theorem dX1_init_44 : decode cX1_init 44 = .ok (.dup, 1) := by decide +kernel
theorem dX1_init_45 : decode cX1_init 45 = .ok (.iconst 1, 1) := by decide +kernel
theorem dX1_init_46 : decode cX1_init 46 = .ok (.sipush 2000, 3) := by decide +kernel
theorem dX1_init_49 : decode cX1_init 49 = .ok (.iastore, 1) := by decide +kernel
theorem dX1_init_50 : decode cX1_init 50 = .ok (.dup, 1) := by decide +kernel
theorem dX1_init_51 : decode cX1_init 51 = .ok (.iconst 2, 1) := by decide +kernel
theorem dX1_init_52 : decode cX1_init 52 = .ok (.sipush 2000, 3) := by decide +kernel
theorem dX1_init_55 : decode cX1_init 55 = .ok (.iastore, 1) := by decide +kernel
theorem dX1_init_56 : decode cX1_init 56 = .ok (.putfield 22, 3) := by decide +kernel
theorem dX1_init_59 : decode cX1_init 59 = .ok (.aload_n 0, 1) := by decide +kernel
theorem dX1_init_60 : decode cX1_init 60 = .ok (.iconst 3, 1) := by decide +kernel
theorem dX1_init_61 : decode cX1_init 61 = .ok (.newarray .int, 2) := by decide +kernel
theorem dX1_init_63 : decode cX1_init 63 = .ok (.dup, 1) := by decide +kernel
theorem dX1_init_64 : decode cX1_init 64 = .ok (.iconst 0, 1) := by decide +kernel
theorem dX1_init_65 : decode cX1_init 65 = .ok (.iconst 1, 1) := by decide +kernel
theorem dX1_init_66 : decode cX1_init 66 = .ok (.iastore, 1) := by decide +kernel
theorem dX1_init_67 : decode cX1_init 67 = .ok (.dup, 1) := by decide +kernel
theorem dX1_init_68 : decode cX1_init 68 = .ok (.iconst 1, 1) := by decide +kernel
theorem dX1_init_69 : decode cX1_init 69 = .ok (.iconst 1, 1) := by decide +kernel
theorem dX1_init_70 : decode cX1_init 70 = .ok (.iastore, 1) := by decide +kernel
theorem dX1_init_71 : decode cX1_init 71 = .ok (.dup, 1) := by decide +kernel
theorem dX1_init_72 : decode cX1_init 72 = .ok (.iconst 2, 1) := by decide +kernel
theorem dX1_init_73 : decode cX1_init 73 = .ok (.iconst 2, 1) := by decide +kernel
theorem dX1_init_74 : decode cX1_init 74 = .ok (.iastore, 1) := by decide +kernel
theorem dX1_init_75 : decode cX1_init 75 = .ok (.putfield 25, 3) := by decide +kernel
theorem dX1_init_78 : decode cX1_init 78 = .ok (.aload_n 0, 1) := by decide +kernel
theorem dX1_init_79 : decode cX1_init 79 = .ok (.sipush 201, 3) := by decide +kernel
theorem dX1_init_82 : decode cX1_init 82 = .ok (.newarray .int, 2) := by decide +kernel
theorem dX1_init_84 : decode cX1_init 84 = .ok (.putfield 28, 3) := by decide +kernel
theorem dX1_init_87 : decode cX1_init 87 = .ok (.aload_n 0, 1) := by decide +kernel
theorem dX1_init_88 : decode cX1_init 88 = .ok (.sipush 201, 3) := by decide +kernel
theorem dX1_init_91 : decode cX1_init 91 = .ok (.newarray .int, 2) := by decide +kernel
theorem dX1_init_93 : decode cX1_init 93 = .ok (.putfield 31, 3) := by decide +kernel
theorem dX1_init_96 : decode cX1_init 96 = .ok (.aload_n 0, 1) := by decide +kernel
theorem dX1_init_97 : decode cX1_init 97 = .ok (.sipush 201, 3) := by decide +kernel
theorem dX1_init_100 : decode cX1_init 100 = .ok (.newarray .int, 2) := by decide +kernel
theorem dX1_init_102 : decode cX1_init 102 = .ok (.putfield 34, 3) := by decide +kernel
theorem dX1_init_105 : decode cX1_init 105 = .ok (.aload_n 0, 1) := by decide +kernel
theorem dX1_init_106 : decode cX1_init 106 = .ok (.sipush 144, 3) := by decide +kernel
theorem dX1_init_109 : decode cX1_init 109 = .ok (.newarray .int, 2) := by decide +kernel
theorem dX1_init_111 : decode cX1_init 111 = .ok (.putfield 37, 3) := by decide +kernel
theorem dX1_init_114 : decode cX1_init 114 = .ok (.aload_n 0, 1) := by decide +kernel
theorem dX1_init_115 : decode cX1_init 115 = .ok (.sipush 144, 3) := by decide +kernel
theorem dX1_init_118 : decode cX1_init 118 = .ok (.newarray .int, 2) := by decide +kernel
theorem dX1_init_120 : decode cX1_init 120 = .ok (.putfield 40, 3) := by decide +kernel
theorem dX1_init_123 : decode cX1_init 123 = .ok (.aload_n 0, 1) := by decide +kernel
theorem dX1_init_124 : decode cX1_init 124 = .ok (.sipush 144, 3) := by decide +kernel
theorem dX1_init_127 : decode cX1_init 127 = .ok (.newarray .int, 2) := by decide +kernel
theorem dX1_init_129 : decode cX1_init 129 = .ok (.putfield 43, 3) := by decide +kernel
theorem dX1_init_132 : decode cX1_init 132 = .ok (.aload_n 0, 1) := by decide +kernel
theorem dX1_init_133 : decode cX1_init 133 = .ok (.sipush 276, 3) := by decide +kernel
theorem dX1_init_136 : decode cX1_init 136 = .ok (.newarray .int, 2) := by decide +kernel
theorem dX1_init_138 : decode cX1_init 138 = .ok (.putfield 46, 3) := by decide +kernel
theorem dX1_init_141 : decode cX1_init 141 = .ok (.aload_n 0, 1) := by decide +kernel
theorem dX1_init_142 : decode cX1_init 142 = .ok (.aload_n 1, 1) := by decide +kernel
theorem dX1_init_143 : decode cX1_init 143 = .ok (.putfield 49, 3) := by decide +kernel
theorem dX1_init_146 : decode cX1_init 146 = .ok (.return_, 1) := by decide +kernel
theorem dX1_copyFrom_0 : decode cX1_copyFrom 0 = .ok (.aload_n 0, 1) := by decide +kernel
theorem dX1_copyFrom_1 : decode cX1_copyFrom 1 = .ok (.aload_n 1, 1) := by decide +kernel
theorem dX1_copyFrom_2 : decode cX1_copyFrom 2 = .ok (.getfield 9, 3) := by decide +kernel
theorem dX1_copyFrom_5 : decode cX1_copyFrom 5 = .ok (.putfield 9, 3) := by decide +kernel
theorem dX1_copyFrom_8 : decode cX1_copyFrom 8 = .ok (.aload_n 0, 1) := by decide +kernel
theorem dX1_copyFrom_9 : decode cX1_copyFrom 9 = .ok (.aload_n 1, 1) := by decide +kernel
theorem dX1_copyFrom_10 : decode cX1_copyFrom 10 = .ok (.getfield 15, 3) := by decide +kernel
theorem dX1_copyFrom_13 : decode cX1_copyFrom 13 = .ok (.putfield 15, 3) := by decide +kernel
theorem dX1_copyFrom_16 : decode cX1_copyFrom 16 = .ok (.aload_n 0, 1) := by decide +kernel
theorem dX1_copyFrom_17 : decode cX1_copyFrom 17 = .ok (.aload_n 1, 1) := by decide +kernel
theorem dX1_copyFrom_18 : decode cX1_copyFrom 18 = .ok (.getfield 53, 3) := by decide +kernel
theorem dX1_copyFrom_21 : decode cX1_copyFrom 21 = .ok (.putfield 53, 3) := by decide +kernel
theorem dX1_copyFrom_24 : decode cX1_copyFrom 24 = .ok (.aload_n 0, 1) := by decide +kernel
theorem dX1_copyFrom_25 : decode cX1_copyFrom 25 = .ok (.aload_n 1, 1) := by decide +kernel
theorem dX1_copyFrom_26 : decode cX1_copyFrom 26 = .ok (.getfield 56, 3) := by decide +kernel
theorem dX1_copyFrom_29 : decode cX1_copyFrom 29 = .ok (.putfield 56, 3) := by decide +kernel
theorem dX1_copyFrom_32 : decode cX1_copyFrom 32 = .ok (.aload_n 0, 1) := by decide +kernel
theorem dX1_copyFrom_33 : decode cX1_copyFrom 33 = .ok (.aload_n 1, 1) := by decide +kernel
theorem dX1_copyFrom_34 : decode cX1_copyFrom 34 = .ok (.getfield 59, 3) := by decide +kernel
theorem dX1_copyFrom_37 : decode cX1_copyFrom 37 = .ok (.putfield 59, 3) := by decide +kernel
theorem dX1_copyFrom_40 : decode cX1_copyFrom 40 = .ok (.aload_n 0, 1) := by decide +kernel
theorem dX1_copyFrom_41 : decode cX1_copyFrom 41 = .ok (.aload_n 1, 1) := by decide +kernel
theorem dX1_copyFrom_42 : decode cX1_copyFrom 42 = .ok (.getfield 62, 3) := by decide +kernel
theorem dX1_copyFrom_45 : decode cX1_copyFrom 45 = .ok (.putfield 62, 3) := by decide +kernel
theorem dX1_copyFrom_48 : decode cX1_copyFrom 48 = .ok (.aload_n 0, 1) := by decide +kernel
theorem dX1_copyFrom_49 : decode cX1_copyFrom 49 = .ok (.aload_n 1, 1) := by decide +kernel
theorem dX1_copyFrom_50 : decode cX1_copyFrom 50 = .ok (.getfield 65, 3) := by decide +kernel
theorem dX1_copyFrom_53 : decode cX1_copyFrom 53 = .ok (.putfield 65, 3) := by decide +kernel
theorem dX1_copyFrom_56 : decode cX1_copyFrom 56 = .ok (.aload_n 0, 1) := by decide +kernel
theorem dX1_copyFrom_57 : decode cX1_copyFrom 57 = .ok (.aload_n 1, 1) := by decide +kernel
theorem dX1_copyFrom_58 : decode cX1_copyFrom 58 = .ok (.getfield 68, 3) := by decide +kernel
theorem dX1_copyFrom_61 : decode cX1_copyFrom 61 = .ok (.putfield 68, 3) := by decide +kernel
theorem dX1_copyFrom_64 : decode cX1_copyFrom 64 = .ok (.aload_n 1, 1) := by decide +kernel
theorem dX1_copyFrom_65 : decode cX1_copyFrom 65 = .ok (.getfield 18, 3) := by decide +kernel
theorem dX1_copyFrom_68 : decode cX1_copyFrom 68 = .ok (.iconst 0, 1) := by decide +kernel
theorem dX1_copyFrom_69 : decode cX1_copyFrom 69 = .ok (.aload_n 0, 1) := by decide +kernel
theorem dX1_copyFrom_70 : decode cX1_copyFrom 70 = .ok (.getfield 18, 3) := by decide +kernel
theorem dX1_copyFrom_73 : decode cX1_copyFrom 73 = .ok (.iconst 0, 1) := by decide +kernel
theorem dX1_copyFrom_74 : decode cX1_copyFrom 74 = .ok (.iconst 3, 1) := by decide +kernel
theorem dX1_copyFrom_75 : decode cX1_copyFrom 75 = .ok (.invokestatic 71, 3) := by decide +kernel
theorem dX1_copyFrom_78 : decode cX1_copyFrom 78 = .ok (.aload_n 1, 1) := by decide +kernel
theorem dX1_copyFrom_79 : decode cX1_copyFrom 79 = .ok (.getfield 22, 3) := by decide +kernel
theorem dX1_copyFrom_82 : decode cX1_copyFrom 82 = .ok (.iconst 0, 1) := by decide +kernel
theorem dX1_copyFrom_83 : decode cX1_copyFrom 83 = .ok (.aload_n 0, 1) := by decide +kernel
theorem dX1_copyFrom_84 : decode cX1_copyFrom 84 = .ok (.getfield 22, 3) := by decide +kernel
theorem dX1_copyFrom_87 : decode cX1_copyFrom 87 = .ok (.iconst 0, 1) := by decide +kernel
theorem dX1_copyFrom_88 : decode cX1_copyFrom 88 = .ok (.iconst 3, 1) := by decide +kernel
theorem dX1_copyFrom_89 : decode cX1_copyFrom 89 = .ok (.invokestatic 71, 3) := by decide +kernel
theorem dX1_copyFrom_92 : decode cX1_copyFrom 92 = .ok (.aload_n 1, 1) := by decide +kernel
theorem dX1_copyFrom_93 : decode cX1_copyFrom 93 = .ok (.getfield 25, 3) := by decide +kernel
theorem dX1_copyFrom_96 : decode cX1_copyFrom 96 = .ok (.iconst 0, 1) := by decide +kernel
theorem dX1_copyFrom_97 : decode cX1_copyFrom 97 = .ok (.aload_n 0, 1) := by decide +kernel
theorem dX1_copyFrom_98 : decode cX1_copyFrom 98 = .ok (.getfield 25, 3) := by decide +kernel
theorem dX1_copyFrom_101 : decode cX1_copyFrom 101 = .ok (.iconst 0, 1) := by decide +kernel
theorem dX1_copyFrom_102 : decode cX1_copyFrom 102 = .ok (.iconst 3, 1) := by decide +kernel
theorem dX1_copyFrom_103 : decode cX1_copyFrom 103 = .ok (.invokestatic 71, 3) := by decide +kernel
theorem dX1_copyFrom_106 : decode cX1_copyFrom 106 = .ok (.aload_n 1, 1) := by decide +kernel
theorem dX1_copyFrom_107 : decode cX1_copyFrom 107 = .ok (.getfield 28, 3) := by decide +kernel
theorem dX1_copyFrom_110 : decode cX1_copyFrom 110 = .ok (.iconst 0, 1) := by decide +kernel
theorem dX1_copyFrom_111 : decode cX1_copyFrom 111 = .ok (.aload_n 0, 1) := by decide +kernel
theorem dX1_copyFrom_112 : decode cX1_copyFrom 112 = .ok (.getfield 28, 3) := by decide +kernel
theorem dX1_copyFrom_115 : decode cX1_copyFrom 115 = .ok (.iconst 0, 1) := by decide +kernel
theorem dX1_copyFrom_116 : decode cX1_copyFrom 116 = .ok (.aload_n 0, 1) := by decide +kernel
theorem dX1_copyFrom_117 : decode cX1_copyFrom 117 = .ok (.getfield 68, 3) := by decide +kernel
theorem dX1_copyFrom_120 : decode cX1_copyFrom 120 = .ok (.invokestatic 71, 3) := by decide +kernel
theorem dX1_copyFrom_123 : decode cX1_copyFrom 123 = .ok (.aload_n 1, 1) := by decide +kernel
theorem dX1_copyFrom_124 : decode cX1_copyFrom 124 = .ok (.getfield 31, 3) := by decide +kernel
theorem dX1_copyFrom_127 : decode cX1_copyFrom 127 = .ok (.iconst 0, 1) := by decide +kernel
theorem dX1_copyFrom_128 : decode cX1_copyFrom 128 = .ok (.aload_n 0, 1) := by decide +kernel
theorem dX1_copyFrom_129 : decode cX1_copyFrom 129 = .ok (.getfield 31, 3) := by decide +kernel
theorem dX1_copyFrom_132 : decode cX1_copyFrom 132 = .ok (.iconst 0, 1) := by decide +kernel
theorem dX1_copyFrom_133 : decode cX1_copyFrom 133 = .ok (.aload_n 0, 1) := by decide +kernel
theorem dX1_copyFrom_134 : decode cX1_copyFrom 134 = .ok (.getfield 68, 3) := by decide +kernel
theorem dX1_copyFrom_137 : decode cX1_copyFrom 137 = .ok (.invokestatic 71, 3) := by decide +kernel
theorem dX1_copyFrom_140 : decode cX1_copyFrom 140 = .ok (.aload_n 1, 1) := by decide +kernel
theorem dX1_copyFrom_141 : decode cX1_copyFrom 141 = .ok (.getfield 34, 3) := by decide +kernel
theorem dX1_copyFrom_144 : decode cX1_copyFrom 144 = .ok (.iconst 0, 1) := by decide +kernel
theorem dX1_copyFrom_145 : decode cX1_copyFrom 145 = .ok (.aload_n 0, 1) := by decide +kernel
theorem dX1_copyFrom_146 : decode cX1_copyFrom 146 = .ok (.getfield 34, 3) := by decide +kernel
theorem dX1_copyFrom_149 : decode cX1_copyFrom 149 = .ok (.iconst 0, 1) := by decide +kernel
theorem dX1_copyFrom_150 : decode cX1_copyFrom 150 = .ok (.aload_n 0, 1) := by decide +kernel
theorem dX1_copyFrom_151 : decode cX1_copyFrom 151 = .ok (.getfield 68, 3) := by decide +kernel
theorem dX1_copyFrom_154 : decode cX1_copyFrom 154 = .ok (.invokestatic 71, 3) := by decide +kernel
theorem dX1_copyFrom_157 : decode cX1_copyFrom 157 = .ok (.aload_n 1, 1) := by decide +kernel
theorem dX1_copyFrom_158 : decode cX1_copyFrom 158 = .ok (.getfield 37, 3) := by decide +kernel
theorem dX1_copyFrom_161 : decode cX1_copyFrom 161 = .ok (.iconst 0, 1) := by decide +kernel
theorem dX1_copyFrom_162 : decode cX1_copyFrom 162 = .ok (.aload_n 0, 1) := by decide +kernel
theorem dX1_copyFrom_163 : decode cX1_copyFrom 163 = .ok (.getfield 37, 3) := by decide +kernel
theorem dX1_copyFrom_166 : decode cX1_copyFrom 166 = .ok (.iconst 0, 1) := by decide +kernel
theorem dX1_copyFrom_167 : decode cX1_copyFrom 167 = .ok (.sipush 144, 3) := by decide +kernel
theorem dX1_copyFrom_170 : decode cX1_copyFrom 170 = .ok (.invokestatic 71, 3) := by decide +kernel
theorem dX1_copyFrom_173 : decode cX1_copyFrom 173 = .ok (.aload_n 1, 1) := by decide +kernel
theorem dX1_copyFrom_174 : decode cX1_copyFrom 174 = .ok (.getfield 40, 3) := by decide +kernel
theorem dX1_copyFrom_177 : decode cX1_copyFrom 177 = .ok (.iconst 0, 1) := by decide +kernel
theorem dX1_copyFrom_178 : decode cX1_copyFrom 178 = .ok (.aload_n 0, 1) := by decide +kernel
theorem dX1_copyFrom_179 : decode cX1_copyFrom 179 = .ok (.getfield 40, 3) := by decide +kernel
theorem dX1_copyFrom_182 : decode cX1_copyFrom 182 = .ok (.iconst 0, 1) := by decide +kernel
theorem dX1_copyFrom_183 : decode cX1_copyFrom 183 = .ok (.sipush 144, 3) := by decide +kernel
theorem dX1_copyFrom_186 : decode cX1_copyFrom 186 = .ok (.invokestatic 71, 3) := by decide +kernel
theorem dX1_copyFrom_189 : decode cX1_copyFrom 189 = .ok (.aload_n 1, 1) := by decide +kernel
theorem dX1_copyFrom_190 : decode cX1_copyFrom 190 = .ok (.getfield 43, 3) := by decide +kernel
theorem dX1_copyFrom_193 : decode cX1_copyFrom 193 = .ok (.iconst 0, 1) := by decide +kernel
theorem dX1_copyFrom_194 : decode cX1_copyFrom 194 = .ok (.aload_n 0, 1) := by decide +kernel
theorem dX1_copyFrom_195 : decode cX1_copyFrom 195 = .ok (.getfield 43, 3) := by decide +kernel
theorem dX1_copyFrom_198 : decode cX1_copyFrom 198 = .ok (.iconst 0, 1) := by decide +kernel
theorem dX1_copyFrom_199 : decode cX1_copyFrom 199 = .ok (.sipush 144, 3) := by decide +kernel
theorem dX1_copyFrom_202 : decode cX1_copyFrom 202 = .ok (.invokestatic 71, 3) := by decide +kernel
theorem dX1_copyFrom_205 : decode cX1_copyFrom 205 = .ok (.aload_n 1, 1) := by decide +kernel
theorem dX1_copyFrom_206 : decode cX1_copyFrom 206 = .ok (.getfield 46, 3) := by decide +kernel
theorem dX1_copyFrom_209 : decode cX1_copyFrom 209 = .ok (.iconst 0, 1) := by decide +kernel
theorem dX1_copyFrom_210 : decode cX1_copyFrom 210 = .ok (.aload_n 0, 1) := by decide +kernel
theorem dX1_copyFrom_211 : decode cX1_copyFrom 211 = .ok (.getfield 46, 3) := by decide +kernel
theorem dX1_copyFrom_214 : decode cX1_copyFrom 214 = .ok (.iconst 0, 1) := by decide +kernel
theorem dX1_copyFrom_215 : decode cX1_copyFrom 215 = .ok (.sipush 276, 3) := by decide +kernel
theorem dX1_copyFrom_218 : decode cX1_copyFrom 218 = .ok (.invokestatic 71, 3) := by decide +kernel
theorem dX1_copyFrom_221 : decode cX1_copyFrom 221 = .ok (.return_, 1) := by decide +kernel
theorem dX1_lineBetween_0 : decode cX1_lineBetween 0 = .ok (.iload_n 1, 1) := by decide +kernel
theorem dX1_lineBetween_1 : decode cX1_lineBetween 1 = .ok (.aload_n 0, 1) := by decide +kernel
theorem dX1_lineBetween_2 : decode cX1_lineBetween 2 = .ok (.getfield 15, 3) := by decide +kernel
theorem dX1_lineBetween_5 : decode cX1_lineBetween 5 = .ok (.imul, 1) := by decide +kernel
theorem dX1_lineBetween_6 : decode cX1_lineBetween 6 = .ok (.iload_n 2, 1) := by decide +kernel
theorem dX1_lineBetween_7 : decode cX1_lineBetween 7 = .ok (.aload_n 0, 1) := by decide +kernel
theorem dX1_lineBetween_8 : decode cX1_lineBetween 8 = .ok (.getfield 15, 3) := by decide +kernel
theorem dX1_lineBetween_11 : decode cX1_lineBetween 11 = .ok (.imul, 1) := by decide +kernel
theorem dX1_lineBetween_12 : decode cX1_lineBetween 12 = .ok (.invokestatic 77, 3) := by decide +kernel
theorem dX1_lineBetween_15 : decode cX1_lineBetween 15 = .ok (.istore_n 3, 1) := by decide +kernel
theorem dX1_lineBetween_16 : decode cX1_lineBetween 16 = .ok (.iload_n 3, 1) := by decide +kernel
theorem dX1_lineBetween_17 : decode cX1_lineBetween 17 = .ok (.iconst (-1), 1) := by decide +kernel
theorem dX1_lineBetween_18 : decode cX1_lineBetween 18 = .ok (.if_icmp .ne 15, 3) := by decide +kernel
theorem dX1_lineBetween_21 : decode cX1_lineBetween 21 = .ok (.new 78, 3) := by decide +kernel
theorem dX1_lineBetween_24 : decode cX1_lineBetween 24 = .ok (.dup, 1) := by decide +kernel
theorem dX1_lineBetween_25 : decode cX1_lineBetween 25 = .ok (.iconst 0, 1) := by decide +kernel
theorem dX1_lineBetween_26 : decode cX1_lineBetween 26 = .ok (.iconst 0, 1) := by decide +kernel
theorem dX1_lineBetween_27 : decode cX1_lineBetween 27 = .ok (.newarray .int, 2) := by decide +kernel
theorem dX1_lineBetween_29 : decode cX1_lineBetween 29 = .ok (.invokespecial 83, 3) := by decide +kernel
theorem dX1_lineBetween_32 : decode cX1_lineBetween 32 = .ok (.areturn, 1) := by decide +kernel
theorem dX1_lineBetween_33 : decode cX1_lineBetween 33 = .ok (.aload_n 0, 1) := by decide +kernel
theorem dX1_lineBetween_34 : decode cX1_lineBetween 34 = .ok (.getfield 49, 3) := by decide +kernel
theorem dX1_lineBetween_37 : decode cX1_lineBetween 37 = .ok (.iload_n 3, 1) := by decide +kernel
theorem dX1_lineBetween_38 : decode cX1_lineBetween 38 = .ok (.aaload, 1) := by decide +kernel
theorem dX1_lineBetween_39 : decode cX1_lineBetween 39 = .ok (.astore 4, 2) := by decide +kernel
theorem dX1_lineBetween_41 : decode cX1_lineBetween 41 = .ok (.aload 4, 2) := by decide +kernel
theorem dX1_lineBetween_43 : decode cX1_lineBetween 43 = .ok (.ifnonnull 36, 3) := by decide +kernel
theorem dX1_lineBetween_46 : decode cX1_lineBetween 46 = .ok (.iload_n 1, 1) := by decide +kernel
theorem dX1_lineBetween_47 : decode cX1_lineBetween 47 = .ok (.iload_n 2, 1) := by decide +kernel
theorem dX1_lineBetween_48 : decode cX1_lineBetween 48 = .ok (.invokestatic 86, 3) := by decide +kernel
theorem dX1_lineBetween_51 : decode cX1_lineBetween 51 = .ok (.aload_n 0, 1) := by decide +kernel
theorem dX1_lineBetween_52 : decode cX1_lineBetween 52 = .ok (.getfield 15, 3) := by decide +kernel
theorem dX1_lineBetween_55 : decode cX1_lineBetween 55 = .ok (.imul, 1) := by decide +kernel
theorem dX1_lineBetween_56 : decode cX1_lineBetween 56 = .ok (.iload_n 1, 1) := by decide +kernel
theorem dX1_lineBetween_57 : decode cX1_lineBetween 57 = .ok (.iload_n 2, 1) := by decide +kernel
theorem dX1_lineBetween_58 : decode cX1_lineBetween 58 = .ok (.invokestatic 91, 3) := by decide +kernel
theorem dX1_lineBetween_61 : decode cX1_lineBetween 61 = .ok (.aload_n 0, 1) := by decide +kernel
theorem dX1_lineBetween_62 : decode cX1_lineBetween 62 = .ok (.getfield 15, 3) := by decide +kernel
theorem dX1_lineBetween_65 : decode cX1_lineBetween 65 = .ok (.imul, 1) := by decide +kernel
theorem dX1_lineBetween_66 : decode cX1_lineBetween 66 = .ok (.invokestatic 94, 3) := by decide +kernel
theorem dX1_lineBetween_69 : decode cX1_lineBetween 69 = .ok (.astore 4, 2) := by decide +kernel
theorem dX1_lineBetween_71 : decode cX1_lineBetween 71 = .ok (.aload_n 0, 1) := by decide +kernel
theorem dX1_lineBetween_72 : decode cX1_lineBetween 72 = .ok (.getfield 49, 3) := by decide +kernel
theorem dX1_lineBetween_75 : decode cX1_lineBetween 75 = .ok (.iload_n 3, 1) := by decide +kernel
theorem dX1_lineBetween_76 : decode cX1_lineBetween 76 = .ok (.aload 4, 2) := by decide +kernel
theorem dX1_lineBetween_78 : decode cX1_lineBetween 78 = .ok (.aastore, 1) := by decide +kernel
theorem dX1_lineBetween_79 : decode cX1_lineBetween 79 = .ok (.aload 4, 2) := by decide +kernel
theorem dX1_lineBetween_81 : decode cX1_lineBetween 81 = .ok (.areturn, 1) := by decide +kernel
theorem dX1_timesLying_0 : decode cX1_timesLying 0 = .ok (.iload_n 1, 1) := by decide +kernel
theorem dX1_timesLying_1 : decode cX1_timesLying 1 = .ok (.aload_n 0, 1) := by decide +kernel
theorem dX1_timesLying_2 : decode cX1_timesLying 2 = .ok (.getfield 15, 3) := by decide +kernel
theorem dX1_timesLying_5 : decode cX1_timesLying 5 = .ok (.imul, 1) := by decide +kernel
theorem dX1_timesLying_6 : decode cX1_timesLying 6 = .ok (.iload_n 2, 1) := by decide +kernel
theorem dX1_timesLying_7 : decode cX1_timesLying 7 = .ok (.aload_n 0, 1) := by decide +kernel
theorem dX1_timesLying_8 : decode cX1_timesLying 8 = .ok (.getfield 15, 3) := by decide +kernel
theorem dX1_timesLying_11 : decode cX1_timesLying 11 = .ok (.imul, 1) := by decide +kernel
theorem dX1_timesLying_12 : decode cX1_timesLying 12 = .ok (.invokestatic 77, 3) := by decide +kernel
theorem dX1_timesLying_15 : decode cX1_timesLying 15 = .ok (.istore_n 3, 1) := by decide +kernel
theorem dX1_timesLying_16 : decode cX1_timesLying 16 = .ok (.iload_n 3, 1) := by decide +kernel
theorem dX1_timesLying_17 : decode cX1_timesLying 17 = .ok (.iconst (-1), 1) := by decide +kernel
theorem dX1_timesLying_18 : decode cX1_timesLying 18 = .ok (.if_icmp .ne 7, 3) := by decide +kernel
theorem dX1_timesLying_21 : decode cX1_timesLying 21 = .ok (.iconst 0, 1) := by decide +kernel
theorem dX1_timesLying_22 : decode cX1_timesLying 22 = .ok (.goto 9, 3) := by decide +kernel
theorem dX1_timesLying_25 : decode cX1_timesLying 25 = .ok (.aload_n 0, 1) := by decide +kernel
theorem dX1_timesLying_26 : decode cX1_timesLying 26 = .ok (.getfield 46, 3) := by decide +kernel
theorem dX1_timesLying_29 : decode cX1_timesLying 29 = .ok (.iload_n 3, 1) := by decide +kernel
theorem dX1_timesLying_30 : decode cX1_timesLying 30 = .ok (.iaload, 1) := by decide +kernel
theorem dX1_timesLying_31 : decode cX1_timesLying 31 = .ok (.ireturn, 1) := by decide +kernel
theorem dX1_refusal_0 : decode cX1_refusal 0 = .ok (.iload_n 1, 1) := by decide +kernel
theorem dX1_refusal_1 : decode cX1_refusal 1 = .ok (.aload_n 0, 1) := by decide +kernel
theorem dX1_refusal_2 : decode cX1_refusal 2 = .ok (.getfield 53, 3) := by decide +kernel
theorem dX1_refusal_5 : decode cX1_refusal 5 = .ok (.if_icmp .ne 5, 3) := by decide +kernel
theorem dX1_refusal_8 : decode cX1_refusal 8 = .ok (.iconst 1, 1) := by decide +kernel
theorem dX1_refusal_9 : decode cX1_refusal 9 = .ok (.ireturn, 1) := by decide +kernel
theorem dX1_refusal_10 : decode cX1_refusal 10 = .ok (.iload_n 1, 1) := by decide +kernel
theorem dX1_refusal_11 : decode cX1_refusal 11 = .ok (.aload_n 0, 1) := by decide +kernel
theorem dX1_refusal_12 : decode cX1_refusal 12 = .ok (.getfield 53, 3) := by decide +kernel
theorem dX1_refusal_15 : decode cX1_refusal 15 = .ok (.isub, 1) := by decide +kernel
theorem dX1_refusal_16 : decode cX1_refusal 16 = .ok (.invokestatic 98, 3) := by decide +kernel
theorem dX1_refusal_19 : decode cX1_refusal 19 = .ok (.istore_n 2, 1) := by decide +kernel
theorem dX1_refusal_20 : decode cX1_refusal 20 = .ok (.iload_n 2, 1) := by decide +kernel
theorem dX1_refusal_21 : decode cX1_refusal 21 = .ok (.aload_n 0, 1) := by decide +kernel
theorem dX1_refusal_22 : decode cX1_refusal 22 = .ok (.getfield 9, 3) := by decide +kernel
theorem dX1_refusal_25 : decode cX1_refusal 25 = .ok (.iload_n 2, 1) := by decide +kernel
theorem dX1_refusal_26 : decode cX1_refusal 26 = .ok (.isub, 1) := by decide +kernel
theorem dX1_refusal_27 : decode cX1_refusal 27 = .ok (.invokestatic 86, 3) := by decide +kernel
theorem dX1_refusal_30 : decode cX1_refusal 30 = .ok (.aload_n 0, 1) := by decide +kernel
theorem dX1_refusal_31 : decode cX1_refusal 31 = .ok (.getfield 25, 3) := by decide +kernel
theorem dX1_refusal_34 : decode cX1_refusal 34 = .ok (.iconst 0, 1) := by decide +kernel
theorem dX1_refusal_35 : decode cX1_refusal 35 = .ok (.iaload, 1) := by decide +kernel
theorem dX1_refusal_36 : decode cX1_refusal 36 = .ok (.if_icmp .ge 5, 3) := by decide +kernel
theorem dX1_refusal_39 : decode cX1_refusal 39 = .ok (.iconst 2, 1) := by decide +kernel
theorem dX1_refusal_40 : decode cX1_refusal 40 = .ok (.ireturn, 1) := by decide +kernel
theorem dX1_refusal_41 : decode cX1_refusal 41 = .ok (.aload_n 0, 1) := by decide +kernel
theorem dX1_refusal_42 : decode cX1_refusal 42 = .ok (.aload_n 0, 1) := by decide +kernel
theorem dX1_refusal_43 : decode cX1_refusal 43 = .ok (.getfield 53, 3) := by decide +kernel
theorem dX1_refusal_46 : decode cX1_refusal 46 = .ok (.iload_n 1, 1) := by decide +kernel
theorem dX1_refusal_47 : decode cX1_refusal 47 = .ok (.invokevirtual 102, 3) := by decide +kernel
theorem dX1_refusal_50 : decode cX1_refusal 50 = .ok (.aload_n 0, 1) := by decide +kernel
theorem dX1_refusal_51 : decode cX1_refusal 51 = .ok (.getfield 25, 3) := by decide +kernel
theorem dX1_refusal_54 : decode cX1_refusal 54 = .ok (.iconst 1, 1) := by decide +kernel
theorem dX1_refusal_55 : decode cX1_refusal 55 = .ok (.iaload, 1) := by decide +kernel
theorem dX1_refusal_56 : decode cX1_refusal 56 = .ok (.if_icmp .lt 5, 3) := by decide +kernel
theorem dX1_refusal_59 : decode cX1_refusal 59 = .ok (.iconst 3, 1) := by decide +kernel
theorem dX1_refusal_60 : decode cX1_refusal 60 = .ok (.ireturn, 1) := by decide +kernel
theorem dX1_refusal_61 : decode cX1_refusal 61 = .ok (.aload_n 0, 1) := by decide +kernel
theorem dX1_refusal_62 : decode cX1_refusal 62 = .ok (.getfield 22, 3) := by decide +kernel
theorem dX1_refusal_65 : decode cX1_refusal 65 = .ok (.aload_n 0, 1) := by decide +kernel
theorem dX1_refusal_66 : decode cX1_refusal 66 = .ok (.getfield 56, 3) := by decide +kernel
theorem dX1_refusal_69 : decode cX1_refusal 69 = .ok (.iaload, 1) := by decide +kernel
theorem dX1_refusal_70 : decode cX1_refusal 70 = .ok (.aload_n 0, 1) := by decide +kernel
theorem dX1_refusal_71 : decode cX1_refusal 71 = .ok (.aload_n 0, 1) := by decide +kernel
theorem dX1_refusal_72 : decode cX1_refusal 72 = .ok (.getfield 53, 3) := by decide +kernel
theorem dX1_refusal_75 : decode cX1_refusal 75 = .ok (.iload_n 1, 1) := by decide +kernel
theorem dX1_refusal_76 : decode cX1_refusal 76 = .ok (.invokevirtual 105, 3) := by decide +kernel
theorem dX1_refusal_79 : decode cX1_refusal 79 = .ok (.getfield 108, 3) := by decide +kernel
theorem dX1_refusal_82 : decode cX1_refusal 82 = .ok (.if_icmp .ge 7, 3) := by decide +kernel
theorem dX1_refusal_85 : decode cX1_refusal 85 = .ok (.iconst 4, 1) := by decide +kernel
theorem dX1_refusal_86 : decode cX1_refusal 86 = .ok (.goto 4, 3) := by decide +kernel
theorem dX1_refusal_89 : decode cX1_refusal 89 = .ok (.iconst 0, 1) := by decide +kernel
theorem dX1_refusal_90 : decode cX1_refusal 90 = .ok (.ireturn, 1) := by decide +kernel
theorem dX1_lackOf_0 : decode cX1_lackOf 0 = .ok (.aload_n 0, 1) := by decide +kernel
theorem dX1_lackOf_1 : decode cX1_lackOf 1 = .ok (.getfield 37, 3) := by decide +kernel
theorem dX1_lackOf_4 : decode cX1_lackOf 4 = .ok (.iload_n 1, 1) := by decide +kernel
theorem dX1_lackOf_5 : decode cX1_lackOf 5 = .ok (.iaload, 1) := by decide +kernel
theorem dX1_lackOf_6 : decode cX1_lackOf 6 = .ok (.aload_n 0, 1) := by decide +kernel
theorem dX1_lackOf_7 : decode cX1_lackOf 7 = .ok (.getfield 25, 3) := by decide +kernel
theorem dX1_lackOf_10 : decode cX1_lackOf 10 = .ok (.iconst 2, 1) := by decide +kernel
theorem dX1_lackOf_11 : decode cX1_lackOf 11 = .ok (.iaload, 1) := by decide +kernel
theorem dX1_lackOf_12 : decode cX1_lackOf 12 = .ok (.imul, 1) := by decide +kernel
theorem dX1_lackOf_13 : decode cX1_lackOf 13 = .ok (.aload_n 0, 1) := by decide +kernel
theorem dX1_lackOf_14 : decode cX1_lackOf 14 = .ok (.getfield 40, 3) := by decide +kernel
theorem dX1_lackOf_17 : decode cX1_lackOf 17 = .ok (.iload_n 1, 1) := by decide +kernel
theorem dX1_lackOf_18 : decode cX1_lackOf 18 = .ok (.iaload, 1) := by decide +kernel
theorem dX1_lackOf_19 : decode cX1_lackOf 19 = .ok (.isub, 1) := by decide +kernel
theorem dX1_lackOf_20 : decode cX1_lackOf 20 = .ok (.ireturn, 1) := by decide +kernel
theorem dX1_misfit_0 : decode cX1_misfit 0 = .ok (.iconst 0, 1) := by decide +kernel
theorem dX1_misfit_1 : decode cX1_misfit 1 = .ok (.istore_n 1, 1) := by decide +kernel
theorem dX1_misfit_2 : decode cX1_misfit 2 = .ok (.iconst 0, 1) := by decide +kernel
theorem dX1_misfit_3 : decode cX1_misfit 3 = .ok (.istore_n 2, 1) := by decide +kernel
theorem dX1_misfit_4 : decode cX1_misfit 4 = .ok (.iload_n 2, 1) := by decide +kernel
theorem dX1_misfit_5 : decode cX1_misfit 5 = .ok (.sipush 144, 3) := by decide +kernel
theorem dX1_misfit_8 : decode cX1_misfit 8 = .ok (.if_icmp .ge 20, 3) := by decide +kernel
theorem dX1_misfit_11 : decode cX1_misfit 11 = .ok (.iload_n 1, 1) := by decide +kernel
theorem dX1_misfit_12 : decode cX1_misfit 12 = .ok (.aload_n 0, 1) := by decide +kernel
theorem dX1_misfit_13 : decode cX1_misfit 13 = .ok (.iload_n 2, 1) := by decide +kernel
theorem dX1_misfit_14 : decode cX1_misfit 14 = .ok (.invokevirtual 111, 3) := by decide +kernel
theorem dX1_misfit_17 : decode cX1_misfit 17 = .ok (.invokestatic 98, 3) := by decide +kernel
theorem dX1_misfit_20 : decode cX1_misfit 20 = .ok (.iadd, 1) := by decide +kernel
theorem dX1_misfit_21 : decode cX1_misfit 21 = .ok (.istore_n 1, 1) := by decide +kernel
theorem dX1_misfit_22 : decode cX1_misfit 22 = .ok (.iinc 2 1, 3) := by decide +kernel
theorem dX1_misfit_25 : decode cX1_misfit 25 = .ok (.goto (-21), 3) := by decide +kernel
theorem dX1_misfit_28 : decode cX1_misfit 28 = .ok (.iload_n 1, 1) := by decide +kernel
theorem dX1_misfit_29 : decode cX1_misfit 29 = .ok (.ireturn, 1) := by decide +kernel
theorem dX1_squaresOfSign_0 : decode cX1_squaresOfSign 0 = .ok (.iconst 0, 1) := by decide +kernel
theorem dX1_squaresOfSign_1 : decode cX1_squaresOfSign 1 = .ok (.istore_n 2, 1) := by decide +kernel
theorem dX1_squaresOfSign_2 : decode cX1_squaresOfSign 2 = .ok (.iconst 0, 1) := by decide +kernel
theorem dX1_squaresOfSign_3 : decode cX1_squaresOfSign 3 = .ok (.istore_n 3, 1) := by decide +kernel
theorem dX1_squaresOfSign_4 : decode cX1_squaresOfSign 4 = .ok (.iload_n 3, 1) := by decide +kernel
theorem dX1_squaresOfSign_5 : decode cX1_squaresOfSign 5 = .ok (.sipush 144, 3) := by decide +kernel
theorem dX1_squaresOfSign_8 : decode cX1_squaresOfSign 8 = .ok (.if_icmp .ge 42, 3) := by decide +kernel
theorem dX1_squaresOfSign_11 : decode cX1_squaresOfSign 11 = .ok (.aload_n 0, 1) := by decide +kernel
theorem dX1_squaresOfSign_12 : decode cX1_squaresOfSign 12 = .ok (.iload_n 3, 1) := by decide +kernel
theorem dX1_squaresOfSign_13 : decode cX1_squaresOfSign 13 = .ok (.invokevirtual 111, 3) := by decide +kernel
theorem dX1_squaresOfSign_16 : decode cX1_squaresOfSign 16 = .ok (.istore 4, 2) := by decide +kernel
theorem dX1_squaresOfSign_18 : decode cX1_squaresOfSign 18 = .ok (.iload 4, 2) := by decide +kernel
theorem dX1_squaresOfSign_20 : decode cX1_squaresOfSign 20 = .ok (.ifCond .le 7, 3) := by decide +kernel
theorem dX1_squaresOfSign_23 : decode cX1_squaresOfSign 23 = .ok (.iconst 1, 1) := by decide +kernel
theorem dX1_squaresOfSign_24 : decode cX1_squaresOfSign 24 = .ok (.goto 13, 3) := by decide +kernel
theorem dX1_squaresOfSign_27 : decode cX1_squaresOfSign 27 = .ok (.iload 4, 2) := by decide +kernel
theorem dX1_squaresOfSign_29 : decode cX1_squaresOfSign 29 = .ok (.ifCond .ge 7, 3) := by decide +kernel
theorem dX1_squaresOfSign_32 : decode cX1_squaresOfSign 32 = .ok (.iconst (-1), 1) := by decide +kernel
theorem dX1_squaresOfSign_33 : decode cX1_squaresOfSign 33 = .ok (.goto 4, 3) := by decide +kernel
theorem dX1_squaresOfSign_36 : decode cX1_squaresOfSign 36 = .ok (.iconst 0, 1) := by decide +kernel
theorem dX1_squaresOfSign_37 : decode cX1_squaresOfSign 37 = .ok (.iload_n 1, 1) := by decide +kernel
theorem dX1_squaresOfSign_38 : decode cX1_squaresOfSign 38 = .ok (.if_icmp .ne 6, 3) := by decide +kernel
theorem dX1_squaresOfSign_41 : decode cX1_squaresOfSign 41 = .ok (.iinc 2 1, 3) := by decide +kernel
theorem dX1_squaresOfSign_44 : decode cX1_squaresOfSign 44 = .ok (.iinc 3 1, 3) := by decide +kernel
theorem dX1_squaresOfSign_47 : decode cX1_squaresOfSign 47 = .ok (.goto (-43), 3) := by decide +kernel
theorem dX1_squaresOfSign_50 : decode cX1_squaresOfSign 50 = .ok (.iload_n 2, 1) := by decide +kernel
theorem dX1_squaresOfSign_51 : decode cX1_squaresOfSign 51 = .ok (.ireturn, 1) := by decide +kernel
theorem dX1_gainTo_0 : decode cX1_gainTo 0 = .ok (.iconst 0, 1) := by decide +kernel
theorem dX1_gainTo_1 : decode cX1_gainTo 1 = .ok (.istore_n 2, 1) := by decide +kernel
theorem dX1_gainTo_2 : decode cX1_gainTo 2 = .ok (.aload_n 0, 1) := by decide +kernel
theorem dX1_gainTo_3 : decode cX1_gainTo 3 = .ok (.aload_n 0, 1) := by decide +kernel
theorem dX1_gainTo_4 : decode cX1_gainTo 4 = .ok (.getfield 53, 3) := by decide +kernel
theorem dX1_gainTo_7 : decode cX1_gainTo 7 = .ok (.iload_n 1, 1) := by decide +kernel
theorem dX1_gainTo_8 : decode cX1_gainTo 8 = .ok (.invokevirtual 105, 3) := by decide +kernel
theorem dX1_gainTo_11 : decode cX1_gainTo 11 = .ok (.getfield 114, 3) := by decide +kernel
theorem dX1_gainTo_14 : decode cX1_gainTo 14 = .ok (.astore_n 3, 1) := by decide +kernel
theorem dX1_gainTo_15 : decode cX1_gainTo 15 = .ok (.aload_n 3, 1) := by decide +kernel
theorem dX1_gainTo_16 : decode cX1_gainTo 16 = .ok (.arraylength, 1) := by decide +kernel
theorem dX1_gainTo_17 : decode cX1_gainTo 17 = .ok (.istore 4, 2) := by decide +kernel
theorem dX1_gainTo_19 : decode cX1_gainTo 19 = .ok (.iconst 0, 1) := by decide +kernel
theorem dX1_gainTo_20 : decode cX1_gainTo 20 = .ok (.istore 5, 2) := by decide +kernel
theorem dX1_gainTo_22 : decode cX1_gainTo 22 = .ok (.iload 5, 2) := by decide +kernel
theorem dX1_gainTo_24 : decode cX1_gainTo 24 = .ok (.iload 4, 2) := by decide +kernel
theorem dX1_gainTo_26 : decode cX1_gainTo 26 = .ok (.if_icmp .ge 36, 3) := by decide +kernel
theorem dX1_gainTo_29 : decode cX1_gainTo 29 = .ok (.aload_n 3, 1) := by decide +kernel
theorem dX1_gainTo_30 : decode cX1_gainTo 30 = .ok (.iload 5, 2) := by decide +kernel
theorem dX1_gainTo_32 : decode cX1_gainTo 32 = .ok (.iaload, 1) := by decide +kernel
theorem dX1_gainTo_33 : decode cX1_gainTo 33 = .ok (.istore 6, 2) := by decide +kernel
theorem dX1_gainTo_35 : decode cX1_gainTo 35 = .ok (.iload_n 2, 1) := by decide +kernel
theorem dX1_gainTo_36 : decode cX1_gainTo 36 = .ok (.aload_n 0, 1) := by decide +kernel
theorem dX1_gainTo_37 : decode cX1_gainTo 37 = .ok (.iload 6, 2) := by decide +kernel
theorem dX1_gainTo_39 : decode cX1_gainTo 39 = .ok (.invokevirtual 111, 3) := by decide +kernel
theorem dX1_gainTo_42 : decode cX1_gainTo 42 = .ok (.aload_n 0, 1) := by decide +kernel
theorem dX1_gainTo_43 : decode cX1_gainTo 43 = .ok (.getfield 18, 3) := by decide +kernel
theorem dX1_gainTo_46 : decode cX1_gainTo 46 = .ok (.aload_n 0, 1) := by decide +kernel
theorem dX1_gainTo_47 : decode cX1_gainTo 47 = .ok (.getfield 56, 3) := by decide +kernel
theorem dX1_gainTo_50 : decode cX1_gainTo 50 = .ok (.iaload, 1) := by decide +kernel
theorem dX1_gainTo_51 : decode cX1_gainTo 51 = .ok (.invokestatic 117, 3) := by decide +kernel
theorem dX1_gainTo_54 : decode cX1_gainTo 54 = .ok (.iadd, 1) := by decide +kernel
theorem dX1_gainTo_55 : decode cX1_gainTo 55 = .ok (.istore_n 2, 1) := by decide +kernel
theorem dX1_gainTo_56 : decode cX1_gainTo 56 = .ok (.iinc 5 1, 3) := by decide +kernel
theorem dX1_gainTo_59 : decode cX1_gainTo 59 = .ok (.goto (-37), 3) := by decide +kernel
theorem dX1_gainTo_62 : decode cX1_gainTo 62 = .ok (.iload_n 2, 1) := by decide +kernel
theorem dX1_gainTo_63 : decode cX1_gainTo 63 = .ok (.ireturn, 1) := by decide +kernel
theorem dX1_relief_0 : decode cX1_relief 0 = .ok (.iload_n 0, 1) := by decide +kernel
theorem dX1_relief_1 : decode cX1_relief 1 = .ok (.invokestatic 98, 3) := by decide +kernel
theorem dX1_relief_4 : decode cX1_relief 4 = .ok (.iload_n 0, 1) := by decide +kernel
theorem dX1_relief_5 : decode cX1_relief 5 = .ok (.iload_n 1, 1) := by decide +kernel
theorem dX1_relief_6 : decode cX1_relief 6 = .ok (.isub, 1) := by decide +kernel
theorem dX1_relief_7 : decode cX1_relief 7 = .ok (.invokestatic 98, 3) := by decide +kernel
theorem dX1_relief_10 : decode cX1_relief 10 = .ok (.isub, 1) := by decide +kernel
theorem dX1_relief_11 : decode cX1_relief 11 = .ok (.ireturn, 1) := by decide +kernel
theorem dX1_misfitByGains_0 : decode cX1_misfitByGains 0 = .ok (.iconst 0, 1) := by decide +kernel
theorem dX1_misfitByGains_1 : decode cX1_misfitByGains 1 = .ok (.istore_n 2, 1) := by decide +kernel
theorem dX1_misfitByGains_2 : decode cX1_misfitByGains 2 = .ok (.iconst 0, 1) := by decide +kernel
theorem dX1_misfitByGains_3 : decode cX1_misfitByGains 3 = .ok (.istore_n 3, 1) := by decide +kernel
theorem dX1_misfitByGains_4 : decode cX1_misfitByGains 4 = .ok (.iload_n 3, 1) := by decide +kernel
theorem dX1_misfitByGains_5 : decode cX1_misfitByGains 5 = .ok (.sipush 144, 3) := by decide +kernel
theorem dX1_misfitByGains_8 : decode cX1_misfitByGains 8 = .ok (.if_icmp .ge 31, 3) := by decide +kernel
theorem dX1_misfitByGains_11 : decode cX1_misfitByGains 11 = .ok (.aload_n 1, 1) := by decide +kernel
theorem dX1_misfitByGains_12 : decode cX1_misfitByGains 12 = .ok (.iload_n 3, 1) := by decide +kernel
theorem dX1_misfitByGains_13 : decode cX1_misfitByGains 13 = .ok (.aload_n 0, 1) := by decide +kernel
theorem dX1_misfitByGains_14 : decode cX1_misfitByGains 14 = .ok (.getfield 37, 3) := by decide +kernel
theorem dX1_misfitByGains_17 : decode cX1_misfitByGains 17 = .ok (.iload_n 3, 1) := by decide +kernel
theorem dX1_misfitByGains_18 : decode cX1_misfitByGains 18 = .ok (.iaload, 1) := by decide +kernel
theorem dX1_misfitByGains_19 : decode cX1_misfitByGains 19 = .ok (.aload_n 0, 1) := by decide +kernel
theorem dX1_misfitByGains_20 : decode cX1_misfitByGains 20 = .ok (.getfield 25, 3) := by decide +kernel
theorem dX1_misfitByGains_23 : decode cX1_misfitByGains 23 = .ok (.iconst 2, 1) := by decide +kernel
theorem dX1_misfitByGains_24 : decode cX1_misfitByGains 24 = .ok (.iaload, 1) := by decide +kernel
theorem dX1_misfitByGains_25 : decode cX1_misfitByGains 25 = .ok (.imul, 1) := by decide +kernel
theorem dX1_misfitByGains_26 : decode cX1_misfitByGains 26 = .ok (.iastore, 1) := by decide +kernel
theorem dX1_misfitByGains_27 : decode cX1_misfitByGains 27 = .ok (.iload_n 2, 1) := by decide +kernel
theorem dX1_misfitByGains_28 : decode cX1_misfitByGains 28 = .ok (.aload_n 1, 1) := by decide +kernel
theorem dX1_misfitByGains_29 : decode cX1_misfitByGains 29 = .ok (.iload_n 3, 1) := by decide +kernel
theorem dX1_misfitByGains_30 : decode cX1_misfitByGains 30 = .ok (.iaload, 1) := by decide +kernel
theorem dX1_misfitByGains_31 : decode cX1_misfitByGains 31 = .ok (.iadd, 1) := by decide +kernel
theorem dX1_misfitByGains_32 : decode cX1_misfitByGains 32 = .ok (.istore_n 2, 1) := by decide +kernel
theorem dX1_misfitByGains_33 : decode cX1_misfitByGains 33 = .ok (.iinc 3 1, 3) := by decide +kernel
theorem dX1_misfitByGains_36 : decode cX1_misfitByGains 36 = .ok (.goto (-32), 3) := by decide +kernel
theorem dX1_misfitByGains_39 : decode cX1_misfitByGains 39 = .ok (.iconst 0, 1) := by decide +kernel
theorem dX1_misfitByGains_40 : decode cX1_misfitByGains 40 = .ok (.istore_n 3, 1) := by decide +kernel
theorem dX1_misfitByGains_41 : decode cX1_misfitByGains 41 = .ok (.iload_n 3, 1) := by decide +kernel
theorem dX1_misfitByGains_42 : decode cX1_misfitByGains 42 = .ok (.aload_n 0, 1) := by decide +kernel
theorem dX1_misfitByGains_43 : decode cX1_misfitByGains 43 = .ok (.getfield 68, 3) := by decide +kernel
theorem dX1_misfitByGains_46 : decode cX1_misfitByGains 46 = .ok (.if_icmp .ge 92, 3) := by decide +kernel
theorem dX1_misfitByGains_49 : decode cX1_misfitByGains 49 = .ok (.aload_n 0, 1) := by decide +kernel
theorem dX1_misfitByGains_50 : decode cX1_misfitByGains 50 = .ok (.getfield 18, 3) := by decide +kernel
theorem dX1_misfitByGains_53 : decode cX1_misfitByGains 53 = .ok (.aload_n 0, 1) := by decide +kernel
theorem dX1_misfitByGains_54 : decode cX1_misfitByGains 54 = .ok (.getfield 34, 3) := by decide +kernel
theorem dX1_misfitByGains_57 : decode cX1_misfitByGains 57 = .ok (.iload_n 3, 1) := by decide +kernel
theorem dX1_misfitByGains_58 : decode cX1_misfitByGains 58 = .ok (.iaload, 1) := by decide +kernel
theorem dX1_misfitByGains_59 : decode cX1_misfitByGains 59 = .ok (.iaload, 1) := by decide +kernel
theorem dX1_misfitByGains_60 : decode cX1_misfitByGains 60 = .ok (.istore 4, 2) := by decide +kernel
theorem dX1_misfitByGains_62 : decode cX1_misfitByGains 62 = .ok (.aload_n 0, 1) := by decide +kernel
theorem dX1_misfitByGains_63 : decode cX1_misfitByGains 63 = .ok (.aload_n 0, 1) := by decide +kernel
theorem dX1_misfitByGains_64 : decode cX1_misfitByGains 64 = .ok (.getfield 28, 3) := by decide +kernel
theorem dX1_misfitByGains_67 : decode cX1_misfitByGains 67 = .ok (.iload_n 3, 1) := by decide +kernel
theorem dX1_misfitByGains_68 : decode cX1_misfitByGains 68 = .ok (.iaload, 1) := by decide +kernel
theorem dX1_misfitByGains_69 : decode cX1_misfitByGains 69 = .ok (.aload_n 0, 1) := by decide +kernel
theorem dX1_misfitByGains_70 : decode cX1_misfitByGains 70 = .ok (.getfield 31, 3) := by decide +kernel
theorem dX1_misfitByGains_73 : decode cX1_misfitByGains 73 = .ok (.iload_n 3, 1) := by decide +kernel
theorem dX1_misfitByGains_74 : decode cX1_misfitByGains 74 = .ok (.iaload, 1) := by decide +kernel
theorem dX1_misfitByGains_75 : decode cX1_misfitByGains 75 = .ok (.invokevirtual 105, 3) := by decide +kernel
theorem dX1_misfitByGains_78 : decode cX1_misfitByGains 78 = .ok (.getfield 114, 3) := by decide +kernel
theorem dX1_misfitByGains_81 : decode cX1_misfitByGains 81 = .ok (.astore 5, 2) := by decide +kernel
theorem dX1_misfitByGains_83 : decode cX1_misfitByGains 83 = .ok (.aload 5, 2) := by decide +kernel
theorem dX1_misfitByGains_85 : decode cX1_misfitByGains 85 = .ok (.arraylength, 1) := by decide +kernel
theorem dX1_misfitByGains_86 : decode cX1_misfitByGains 86 = .ok (.istore 6, 2) := by decide +kernel
theorem dX1_misfitByGains_88 : decode cX1_misfitByGains 88 = .ok (.iconst 0, 1) := by decide +kernel
theorem dX1_misfitByGains_89 : decode cX1_misfitByGains 89 = .ok (.istore 7, 2) := by decide +kernel
theorem dX1_misfitByGains_91 : decode cX1_misfitByGains 91 = .ok (.iload 7, 2) := by decide +kernel
theorem dX1_misfitByGains_93 : decode cX1_misfitByGains 93 = .ok (.iload 6, 2) := by decide +kernel
theorem dX1_misfitByGains_95 : decode cX1_misfitByGains 95 = .ok (.if_icmp .ge 37, 3) := by decide +kernel
theorem dX1_misfitByGains_98 : decode cX1_misfitByGains 98 = .ok (.aload 5, 2) := by decide +kernel
theorem dX1_misfitByGains_100 : decode cX1_misfitByGains 100 = .ok (.iload 7, 2) := by decide +kernel
theorem dX1_misfitByGains_102 : decode cX1_misfitByGains 102 = .ok (.iaload, 1) := by decide +kernel
theorem dX1_misfitByGains_103 : decode cX1_misfitByGains 103 = .ok (.istore 8, 2) := by decide +kernel
theorem dX1_misfitByGains_105 : decode cX1_misfitByGains 105 = .ok (.iload_n 2, 1) := by decide +kernel
theorem dX1_misfitByGains_106 : decode cX1_misfitByGains 106 = .ok (.aload_n 1, 1) := by decide +kernel
theorem dX1_misfitByGains_107 : decode cX1_misfitByGains 107 = .ok (.iload 8, 2) := by decide +kernel
theorem dX1_misfitByGains_109 : decode cX1_misfitByGains 109 = .ok (.iaload, 1) := by decide +kernel
theorem dX1_misfitByGains_110 : decode cX1_misfitByGains 110 = .ok (.iload 4, 2) := by decide +kernel
theorem dX1_misfitByGains_112 : decode cX1_misfitByGains 112 = .ok (.invokestatic 117, 3) := by decide +kernel
theorem dX1_misfitByGains_115 : decode cX1_misfitByGains 115 = .ok (.isub, 1) := by decide +kernel
theorem dX1_misfitByGains_116 : decode cX1_misfitByGains 116 = .ok (.istore_n 2, 1) := by decide +kernel
theorem dX1_misfitByGains_117 : decode cX1_misfitByGains 117 = .ok (.aload_n 1, 1) := by decide +kernel
theorem dX1_misfitByGains_118 : decode cX1_misfitByGains 118 = .ok (.iload 8, 2) := by decide +kernel
theorem dX1_misfitByGains_120 : decode cX1_misfitByGains 120 = .ok (.dup2, 1) := by decide +kernel
theorem dX1_misfitByGains_121 : decode cX1_misfitByGains 121 = .ok (.iaload, 1) := by decide +kernel
theorem dX1_misfitByGains_122 : decode cX1_misfitByGains 122 = .ok (.iload 4, 2) := by decide +kernel
theorem dX1_misfitByGains_124 : decode cX1_misfitByGains 124 = .ok (.isub, 1) := by decide +kernel
theorem dX1_misfitByGains_125 : decode cX1_misfitByGains 125 = .ok (.iastore, 1) := by decide +kernel
theorem dX1_misfitByGains_126 : decode cX1_misfitByGains 126 = .ok (.iinc 7 1, 3) := by decide +kernel
theorem dX1_misfitByGains_129 : decode cX1_misfitByGains 129 = .ok (.goto (-38), 3) := by decide +kernel
theorem dX1_misfitByGains_132 : decode cX1_misfitByGains 132 = .ok (.iinc 3 1, 3) := by decide +kernel
theorem dX1_misfitByGains_135 : decode cX1_misfitByGains 135 = .ok (.goto (-94), 3) := by decide +kernel
theorem dX1_misfitByGains_138 : decode cX1_misfitByGains 138 = .ok (.iload_n 2, 1) := by decide +kernel
theorem dX1_misfitByGains_139 : decode cX1_misfitByGains 139 = .ok (.ireturn, 1) := by decide +kernel
theorem dX1_bestNail_0 : decode cX1_bestNail 0 = .ok (.iconst (-1), 1) := by decide +kernel
theorem dX1_bestNail_1 : decode cX1_bestNail 1 = .ok (.istore_n 1, 1) := by decide +kernel
theorem dX1_bestNail_2 : decode cX1_bestNail 2 = .ok (.iconst 0, 1) := by decide +kernel
theorem dX1_bestNail_3 : decode cX1_bestNail 3 = .ok (.istore_n 2, 1) := by decide +kernel
theorem dX1_bestNail_4 : decode cX1_bestNail 4 = .ok (.iconst 0, 1) := by decide +kernel
theorem dX1_bestNail_5 : decode cX1_bestNail 5 = .ok (.istore_n 3, 1) := by decide +kernel
theorem dX1_bestNail_6 : decode cX1_bestNail 6 = .ok (.iconst 0, 1) := by decide +kernel
theorem dX1_bestNail_7 : decode cX1_bestNail 7 = .ok (.istore 4, 2) := by decide +kernel
theorem dX1_bestNail_9 : decode cX1_bestNail 9 = .ok (.iconst 0, 1) := by decide +kernel
theorem dX1_bestNail_10 : decode cX1_bestNail 10 = .ok (.istore 5, 2) := by decide +kernel
theorem dX1_bestNail_12 : decode cX1_bestNail 12 = .ok (.iload 5, 2) := by decide +kernel
theorem dX1_bestNail_14 : decode cX1_bestNail 14 = .ok (.aload_n 0, 1) := by decide +kernel
theorem dX1_bestNail_15 : decode cX1_bestNail 15 = .ok (.getfield 9, 3) := by decide +kernel
theorem dX1_bestNail_18 : decode cX1_bestNail 18 = .ok (.if_icmp .ge 114, 3) := by decide +kernel
theorem dX1_bestNail_21 : decode cX1_bestNail 21 = .ok (.aload_n 0, 1) := by decide +kernel
theorem dX1_bestNail_22 : decode cX1_bestNail 22 = .ok (.iload 5, 2) := by decide +kernel
theorem dX1_bestNail_24 : decode cX1_bestNail 24 = .ok (.invokevirtual 120, 3) := by decide +kernel
theorem dX1_bestNail_27 : decode cX1_bestNail 27 = .ok (.ifCond .ne 99, 3) := by decide +kernel
theorem dX1_bestNail_30 : decode cX1_bestNail 30 = .ok (.aload_n 0, 1) := by decide +kernel
theorem dX1_bestNail_31 : decode cX1_bestNail 31 = .ok (.iload 5, 2) := by decide +kernel
theorem dX1_bestNail_33 : decode cX1_bestNail 33 = .ok (.invokevirtual 123, 3) := by decide +kernel
theorem dX1_bestNail_36 : decode cX1_bestNail 36 = .ok (.istore 6, 2) := by decide +kernel
theorem dX1_bestNail_38 : decode cX1_bestNail 38 = .ok (.aload_n 0, 1) := by decide +kernel
theorem dX1_bestNail_39 : decode cX1_bestNail 39 = .ok (.aload_n 0, 1) := by decide +kernel
theorem dX1_bestNail_40 : decode cX1_bestNail 40 = .ok (.getfield 53, 3) := by decide +kernel
theorem dX1_bestNail_43 : decode cX1_bestNail 43 = .ok (.iload 5, 2) := by decide +kernel
theorem dX1_bestNail_45 : decode cX1_bestNail 45 = .ok (.invokevirtual 102, 3) := by decide +kernel
theorem dX1_bestNail_48 : decode cX1_bestNail 48 = .ok (.istore 7, 2) := by decide +kernel
theorem dX1_bestNail_50 : decode cX1_bestNail 50 = .ok (.aload_n 0, 1) := by decide +kernel
theorem dX1_bestNail_51 : decode cX1_bestNail 51 = .ok (.aload_n 0, 1) := by decide +kernel
theorem dX1_bestNail_52 : decode cX1_bestNail 52 = .ok (.getfield 53, 3) := by decide +kernel
theorem dX1_bestNail_55 : decode cX1_bestNail 55 = .ok (.iload 5, 2) := by decide +kernel
theorem dX1_bestNail_57 : decode cX1_bestNail 57 = .ok (.invokevirtual 105, 3) := by decide +kernel
theorem dX1_bestNail_60 : decode cX1_bestNail 60 = .ok (.getfield 108, 3) := by decide +kernel
theorem dX1_bestNail_63 : decode cX1_bestNail 63 = .ok (.istore 8, 2) := by decide +kernel
theorem dX1_bestNail_65 : decode cX1_bestNail 65 = .ok (.iload 7, 2) := by decide +kernel
theorem dX1_bestNail_67 : decode cX1_bestNail 67 = .ok (.iload_n 3, 1) := by decide +kernel
theorem dX1_bestNail_68 : decode cX1_bestNail 68 = .ok (.if_icmp .lt 16, 3) := by decide +kernel
theorem dX1_bestNail_71 : decode cX1_bestNail 71 = .ok (.iload 7, 2) := by decide +kernel
theorem dX1_bestNail_73 : decode cX1_bestNail 73 = .ok (.iload_n 3, 1) := by decide +kernel
theorem dX1_bestNail_74 : decode cX1_bestNail 74 = .ok (.if_icmp .ne 14, 3) := by decide +kernel
theorem dX1_bestNail_77 : decode cX1_bestNail 77 = .ok (.iload 8, 2) := by decide +kernel
theorem dX1_bestNail_79 : decode cX1_bestNail 79 = .ok (.iload 4, 2) := by decide +kernel
theorem dX1_bestNail_81 : decode cX1_bestNail 81 = .ok (.if_icmp .ge 7, 3) := by decide +kernel
theorem dX1_bestNail_84 : decode cX1_bestNail 84 = .ok (.iconst 1, 1) := by decide +kernel
theorem dX1_bestNail_85 : decode cX1_bestNail 85 = .ok (.goto 4, 3) := by decide +kernel
theorem dX1_bestNail_88 : decode cX1_bestNail 88 = .ok (.iconst 0, 1) := by decide +kernel
theorem dX1_bestNail_89 : decode cX1_bestNail 89 = .ok (.istore 9, 2) := by decide +kernel
theorem dX1_bestNail_91 : decode cX1_bestNail 91 = .ok (.iload_n 1, 1) := by decide +kernel
theorem dX1_bestNail_92 : decode cX1_bestNail 92 = .ok (.iconst (-1), 1) := by decide +kernel
theorem dX1_bestNail_93 : decode cX1_bestNail 93 = .ok (.if_icmp .eq 20, 3) := by decide +kernel
theorem dX1_bestNail_96 : decode cX1_bestNail 96 = .ok (.iload 6, 2) := by decide +kernel
theorem dX1_bestNail_98 : decode cX1_bestNail 98 = .ok (.iload_n 2, 1) := by decide +kernel
theorem dX1_bestNail_99 : decode cX1_bestNail 99 = .ok (.if_icmp .gt 14, 3) := by decide +kernel
theorem dX1_bestNail_102 : decode cX1_bestNail 102 = .ok (.iload 6, 2) := by decide +kernel
theorem dX1_bestNail_104 : decode cX1_bestNail 104 = .ok (.iload_n 2, 1) := by decide +kernel
theorem dX1_bestNail_105 : decode cX1_bestNail 105 = .ok (.if_icmp .ne 21, 3) := by decide +kernel
theorem dX1_bestNail_108 : decode cX1_bestNail 108 = .ok (.iload 9, 2) := by decide +kernel
theorem dX1_bestNail_110 : decode cX1_bestNail 110 = .ok (.ifCond .eq 16, 3) := by decide +kernel
theorem dX1_bestNail_113 : decode cX1_bestNail 113 = .ok (.iload 5, 2) := by decide +kernel
theorem dX1_bestNail_115 : decode cX1_bestNail 115 = .ok (.istore_n 1, 1) := by decide +kernel
theorem dX1_bestNail_116 : decode cX1_bestNail 116 = .ok (.iload 6, 2) := by decide +kernel
theorem dX1_bestNail_118 : decode cX1_bestNail 118 = .ok (.istore_n 2, 1) := by decide +kernel
theorem dX1_bestNail_119 : decode cX1_bestNail 119 = .ok (.iload 7, 2) := by decide +kernel
theorem dX1_bestNail_121 : decode cX1_bestNail 121 = .ok (.istore_n 3, 1) := by decide +kernel
theorem dX1_bestNail_122 : decode cX1_bestNail 122 = .ok (.iload 8, 2) := by decide +kernel
theorem dX1_bestNail_124 : decode cX1_bestNail 124 = .ok (.istore 4, 2) := by decide +kernel
theorem dX1_bestNail_126 : decode cX1_bestNail 126 = .ok (.iinc 5 1, 3) := by decide +kernel
theorem dX1_bestNail_129 : decode cX1_bestNail 129 = .ok (.goto (-117), 3) := by decide +kernel
theorem dX1_bestNail_132 : decode cX1_bestNail 132 = .ok (.iload_n 1, 1) := by decide +kernel
theorem dX1_bestNail_133 : decode cX1_bestNail 133 = .ok (.ireturn, 1) := by decide +kernel
theorem dX1_lay_0 : decode cX1_lay 0 = .ok (.aload_n 0, 1) := by decide +kernel
theorem dX1_lay_1 : decode cX1_lay 1 = .ok (.getfield 68, 3) := by decide +kernel
theorem dX1_lay_4 : decode cX1_lay 4 = .ok (.sipush 200, 3) := by decide +kernel
theorem dX1_lay_7 : decode cX1_lay 7 = .ok (.if_icmp .le 4, 3) := by decide +kernel
theorem dX1_lay_10 : decode cX1_lay 10 = .ok (.return_, 1) := by decide +kernel
theorem dX1_lay_11 : decode cX1_lay 11 = .ok (.aload_n 0, 1) := by decide +kernel
theorem dX1_lay_12 : decode cX1_lay 12 = .ok (.getfield 28, 3) := by decide +kernel
theorem dX1_lay_15 : decode cX1_lay 15 = .ok (.aload_n 0, 1) := by decide +kernel
theorem dX1_lay_16 : decode cX1_lay 16 = .ok (.getfield 68, 3) := by decide +kernel
theorem dX1_lay_19 : decode cX1_lay 19 = .ok (.aload_n 0, 1) := by decide +kernel
theorem dX1_lay_20 : decode cX1_lay 20 = .ok (.getfield 53, 3) := by decide +kernel
theorem dX1_lay_23 : decode cX1_lay 23 = .ok (.iastore, 1) := by decide +kernel
theorem dX1_lay_24 : decode cX1_lay 24 = .ok (.aload_n 0, 1) := by decide +kernel
theorem dX1_lay_25 : decode cX1_lay 25 = .ok (.getfield 31, 3) := by decide +kernel
theorem dX1_lay_28 : decode cX1_lay 28 = .ok (.aload_n 0, 1) := by decide +kernel
theorem dX1_lay_29 : decode cX1_lay 29 = .ok (.getfield 68, 3) := by decide +kernel
theorem dX1_lay_32 : decode cX1_lay 32 = .ok (.iload_n 1, 1) := by decide +kernel
theorem dX1_lay_33 : decode cX1_lay 33 = .ok (.iastore, 1) := by decide +kernel
theorem dX1_lay_34 : decode cX1_lay 34 = .ok (.aload_n 0, 1) := by decide +kernel
theorem dX1_lay_35 : decode cX1_lay 35 = .ok (.getfield 34, 3) := by decide +kernel
theorem dX1_lay_38 : decode cX1_lay 38 = .ok (.aload_n 0, 1) := by decide +kernel
theorem dX1_lay_39 : decode cX1_lay 39 = .ok (.getfield 68, 3) := by decide +kernel
theorem dX1_lay_42 : decode cX1_lay 42 = .ok (.aload_n 0, 1) := by decide +kernel
theorem dX1_lay_43 : decode cX1_lay 43 = .ok (.getfield 56, 3) := by decide +kernel
theorem dX1_lay_46 : decode cX1_lay 46 = .ok (.iastore, 1) := by decide +kernel
theorem dX1_lay_47 : decode cX1_lay 47 = .ok (.aload_n 0, 1) := by decide +kernel
theorem dX1_lay_48 : decode cX1_lay 48 = .ok (.aload_n 0, 1) := by decide +kernel
theorem dX1_lay_49 : decode cX1_lay 49 = .ok (.getfield 68, 3) := by decide +kernel
theorem dX1_lay_52 : decode cX1_lay 52 = .ok (.iconst 1, 1) := by decide +kernel
theorem dX1_lay_53 : decode cX1_lay 53 = .ok (.invokevirtual 126, 3) := by decide +kernel
theorem dX1_lay_56 : decode cX1_lay 56 = .ok (.aload_n 0, 1) := by decide +kernel
theorem dX1_lay_57 : decode cX1_lay 57 = .ok (.dup, 1) := by decide +kernel
theorem dX1_lay_58 : decode cX1_lay 58 = .ok (.getfield 68, 3) := by decide +kernel
theorem dX1_lay_61 : decode cX1_lay 61 = .ok (.iconst 1, 1) := by decide +kernel
theorem dX1_lay_62 : decode cX1_lay 62 = .ok (.iadd, 1) := by decide +kernel
theorem dX1_lay_63 : decode cX1_lay 63 = .ok (.putfield 68, 3) := by decide +kernel
theorem dX1_lay_66 : decode cX1_lay 66 = .ok (.aload_n 0, 1) := by decide +kernel
theorem dX1_lay_67 : decode cX1_lay 67 = .ok (.iload_n 1, 1) := by decide +kernel
theorem dX1_lay_68 : decode cX1_lay 68 = .ok (.putfield 53, 3) := by decide +kernel
theorem dX1_lay_71 : decode cX1_lay 71 = .ok (.return_, 1) := by decide +kernel
theorem dX1_takeOff_0 : decode cX1_takeOff 0 = .ok (.aload_n 0, 1) := by decide +kernel
theorem dX1_takeOff_1 : decode cX1_takeOff 1 = .ok (.getfield 68, 3) := by decide +kernel
theorem dX1_takeOff_4 : decode cX1_takeOff 4 = .ok (.ifCond .gt 4, 3) := by decide +kernel
theorem dX1_takeOff_7 : decode cX1_takeOff 7 = .ok (.return_, 1) := by decide +kernel
theorem dX1_takeOff_8 : decode cX1_takeOff 8 = .ok (.aload_n 0, 1) := by decide +kernel
theorem dX1_takeOff_9 : decode cX1_takeOff 9 = .ok (.dup, 1) := by decide +kernel
theorem dX1_takeOff_10 : decode cX1_takeOff 10 = .ok (.getfield 68, 3) := by decide +kernel
theorem dX1_takeOff_13 : decode cX1_takeOff 13 = .ok (.iconst 1, 1) := by decide +kernel
theorem dX1_takeOff_14 : decode cX1_takeOff 14 = .ok (.isub, 1) := by decide +kernel
theorem dX1_takeOff_15 : decode cX1_takeOff 15 = .ok (.putfield 68, 3) := by decide +kernel
theorem dX1_takeOff_18 : decode cX1_takeOff 18 = .ok (.aload_n 0, 1) := by decide +kernel
theorem dX1_takeOff_19 : decode cX1_takeOff 19 = .ok (.aload_n 0, 1) := by decide +kernel
theorem dX1_takeOff_20 : decode cX1_takeOff 20 = .ok (.getfield 68, 3) := by decide +kernel
theorem dX1_takeOff_23 : decode cX1_takeOff 23 = .ok (.iconst (-1), 1) := by decide +kernel
theorem dX1_takeOff_24 : decode cX1_takeOff 24 = .ok (.invokevirtual 126, 3) := by decide +kernel
theorem dX1_takeOff_27 : decode cX1_takeOff 27 = .ok (.aload_n 0, 1) := by decide +kernel
theorem dX1_takeOff_28 : decode cX1_takeOff 28 = .ok (.aload_n 0, 1) := by decide +kernel
theorem dX1_takeOff_29 : decode cX1_takeOff 29 = .ok (.getfield 28, 3) := by decide +kernel
theorem dX1_takeOff_32 : decode cX1_takeOff 32 = .ok (.aload_n 0, 1) := by decide +kernel
theorem dX1_takeOff_33 : decode cX1_takeOff 33 = .ok (.getfield 68, 3) := by decide +kernel
theorem dX1_takeOff_36 : decode cX1_takeOff 36 = .ok (.iaload, 1) := by decide +kernel
theorem dX1_takeOff_37 : decode cX1_takeOff 37 = .ok (.putfield 53, 3) := by decide +kernel
theorem dX1_takeOff_40 : decode cX1_takeOff 40 = .ok (.aload_n 0, 1) := by decide +kernel
theorem dX1_takeOff_41 : decode cX1_takeOff 41 = .ok (.aload_n 0, 1) := by decide +kernel
theorem dX1_takeOff_42 : decode cX1_takeOff 42 = .ok (.getfield 34, 3) := by decide +kernel
theorem dX1_takeOff_45 : decode cX1_takeOff 45 = .ok (.aload_n 0, 1) := by decide +kernel
theorem dX1_takeOff_46 : decode cX1_takeOff 46 = .ok (.getfield 68, 3) := by decide +kernel
theorem dX1_takeOff_49 : decode cX1_takeOff 49 = .ok (.iaload, 1) := by decide +kernel
theorem dX1_takeOff_50 : decode cX1_takeOff 50 = .ok (.putfield 56, 3) := by decide +kernel
theorem dX1_takeOff_53 : decode cX1_takeOff 53 = .ok (.return_, 1) := by decide +kernel
theorem dX1_takeAllOff_0 : decode cX1_takeAllOff 0 = .ok (.aload_n 0, 1) := by decide +kernel
theorem dX1_takeAllOff_1 : decode cX1_takeAllOff 1 = .ok (.getfield 56, 3) := by decide +kernel
theorem dX1_takeAllOff_4 : decode cX1_takeAllOff 4 = .ok (.istore_n 1, 1) := by decide +kernel
theorem dX1_takeAllOff_5 : decode cX1_takeAllOff 5 = .ok (.aload_n 0, 1) := by decide +kernel
theorem dX1_takeAllOff_6 : decode cX1_takeAllOff 6 = .ok (.getfield 68, 3) := by decide +kernel
theorem dX1_takeAllOff_9 : decode cX1_takeAllOff 9 = .ok (.istore_n 2, 1) := by decide +kernel
theorem dX1_takeAllOff_10 : decode cX1_takeAllOff 10 = .ok (.iload_n 2, 1) := by decide +kernel
theorem dX1_takeAllOff_11 : decode cX1_takeAllOff 11 = .ok (.ifCond .le 13, 3) := by decide +kernel
theorem dX1_takeAllOff_14 : decode cX1_takeAllOff 14 = .ok (.aload_n 0, 1) := by decide +kernel
theorem dX1_takeAllOff_15 : decode cX1_takeAllOff 15 = .ok (.invokevirtual 130, 3) := by decide +kernel
theorem dX1_takeAllOff_18 : decode cX1_takeAllOff 18 = .ok (.iinc 2 (-1), 3) := by decide +kernel
theorem dX1_takeAllOff_21 : decode cX1_takeAllOff 21 = .ok (.goto (-11), 3) := by decide +kernel
theorem dX1_takeAllOff_24 : decode cX1_takeAllOff 24 = .ok (.aload_n 0, 1) := by decide +kernel
theorem dX1_takeAllOff_25 : decode cX1_takeAllOff 25 = .ok (.iload_n 1, 1) := by decide +kernel
theorem dX1_takeAllOff_26 : decode cX1_takeAllOff 26 = .ok (.putfield 56, 3) := by decide +kernel
theorem dX1_takeAllOff_29 : decode cX1_takeAllOff 29 = .ok (.return_, 1) := by decide +kernel
theorem dX1_putThread_0 : decode cX1_putThread 0 = .ok (.aload_n 0, 1) := by decide +kernel
theorem dX1_putThread_1 : decode cX1_putThread 1 = .ok (.getfield 28, 3) := by decide +kernel
theorem dX1_putThread_4 : decode cX1_putThread 4 = .ok (.iload_n 1, 1) := by decide +kernel
theorem dX1_putThread_5 : decode cX1_putThread 5 = .ok (.iaload, 1) := by decide +kernel
theorem dX1_putThread_6 : decode cX1_putThread 6 = .ok (.aload_n 0, 1) := by decide +kernel
theorem dX1_putThread_7 : decode cX1_putThread 7 = .ok (.getfield 15, 3) := by decide +kernel
theorem dX1_putThread_10 : decode cX1_putThread 10 = .ok (.imul, 1) := by decide +kernel
theorem dX1_putThread_11 : decode cX1_putThread 11 = .ok (.aload_n 0, 1) := by decide +kernel
theorem dX1_putThread_12 : decode cX1_putThread 12 = .ok (.getfield 31, 3) := by decide +kernel
theorem dX1_putThread_15 : decode cX1_putThread 15 = .ok (.iload_n 1, 1) := by decide +kernel
theorem dX1_putThread_16 : decode cX1_putThread 16 = .ok (.iaload, 1) := by decide +kernel
theorem dX1_putThread_17 : decode cX1_putThread 17 = .ok (.aload_n 0, 1) := by decide +kernel
theorem dX1_putThread_18 : decode cX1_putThread 18 = .ok (.getfield 15, 3) := by decide +kernel
theorem dX1_putThread_21 : decode cX1_putThread 21 = .ok (.imul, 1) := by decide +kernel
theorem dX1_putThread_22 : decode cX1_putThread 22 = .ok (.invokestatic 77, 3) := by decide +kernel
theorem dX1_putThread_25 : decode cX1_putThread 25 = .ok (.istore_n 3, 1) := by decide +kernel
theorem dX1_putThread_26 : decode cX1_putThread 26 = .ok (.iload_n 3, 1) := by decide +kernel
theorem dX1_putThread_27 : decode cX1_putThread 27 = .ok (.iconst (-1), 1) := by decide +kernel
theorem dX1_putThread_28 : decode cX1_putThread 28 = .ok (.if_icmp .ne 4, 3) := by decide +kernel
theorem dX1_putThread_31 : decode cX1_putThread 31 = .ok (.return_, 1) := by decide +kernel
theorem dX1_putThread_32 : decode cX1_putThread 32 = .ok (.aload_n 0, 1) := by decide +kernel
theorem dX1_putThread_33 : decode cX1_putThread 33 = .ok (.aload_n 0, 1) := by decide +kernel
theorem dX1_putThread_34 : decode cX1_putThread 34 = .ok (.getfield 28, 3) := by decide +kernel
theorem dX1_putThread_37 : decode cX1_putThread 37 = .ok (.iload_n 1, 1) := by decide +kernel
theorem dX1_putThread_38 : decode cX1_putThread 38 = .ok (.iaload, 1) := by decide +kernel
theorem dX1_putThread_39 : decode cX1_putThread 39 = .ok (.aload_n 0, 1) := by decide +kernel
theorem dX1_putThread_40 : decode cX1_putThread 40 = .ok (.getfield 31, 3) := by decide +kernel
theorem dX1_putThread_43 : decode cX1_putThread 43 = .ok (.iload_n 1, 1) := by decide +kernel
theorem dX1_putThread_44 : decode cX1_putThread 44 = .ok (.iaload, 1) := by decide +kernel
theorem dX1_putThread_45 : decode cX1_putThread 45 = .ok (.invokevirtual 105, 3) := by decide +kernel
theorem dX1_putThread_48 : decode cX1_putThread 48 = .ok (.astore 4, 2) := by decide +kernel
theorem dX1_putThread_50 : decode cX1_putThread 50 = .ok (.aload_n 0, 1) := by decide +kernel
theorem dX1_putThread_51 : decode cX1_putThread 51 = .ok (.getfield 34, 3) := by decide +kernel
theorem dX1_putThread_54 : decode cX1_putThread 54 = .ok (.iload_n 1, 1) := by decide +kernel
theorem dX1_putThread_55 : decode cX1_putThread 55 = .ok (.iaload, 1) := by decide +kernel
theorem dX1_putThread_56 : decode cX1_putThread 56 = .ok (.istore 5, 2) := by decide +kernel
theorem dX1_putThread_58 : decode cX1_putThread 58 = .ok (.aload_n 0, 1) := by decide +kernel
theorem dX1_putThread_59 : decode cX1_putThread 59 = .ok (.getfield 46, 3) := by decide +kernel
theorem dX1_putThread_62 : decode cX1_putThread 62 = .ok (.iload_n 3, 1) := by decide +kernel
theorem dX1_putThread_63 : decode cX1_putThread 63 = .ok (.dup2, 1) := by decide +kernel
theorem dX1_putThread_64 : decode cX1_putThread 64 = .ok (.iaload, 1) := by decide +kernel
theorem dX1_putThread_65 : decode cX1_putThread 65 = .ok (.iload_n 2, 1) := by decide +kernel
theorem dX1_putThread_66 : decode cX1_putThread 66 = .ok (.iadd, 1) := by decide +kernel
theorem dX1_putThread_67 : decode cX1_putThread 67 = .ok (.iastore, 1) := by decide +kernel
theorem dX1_putThread_68 : decode cX1_putThread 68 = .ok (.aload_n 0, 1) := by decide +kernel
theorem dX1_putThread_69 : decode cX1_putThread 69 = .ok (.getfield 22, 3) := by decide +kernel
theorem dX1_putThread_72 : decode cX1_putThread 72 = .ok (.iload 5, 2) := by decide +kernel
theorem dX1_putThread_74 : decode cX1_putThread 74 = .ok (.dup2, 1) := by decide +kernel
theorem dX1_putThread_75 : decode cX1_putThread 75 = .ok (.iaload, 1) := by decide +kernel
theorem dX1_putThread_76 : decode cX1_putThread 76 = .ok (.iload_n 2, 1) := by decide +kernel
theorem dX1_putThread_77 : decode cX1_putThread 77 = .ok (.aload 4, 2) := by decide +kernel
theorem dX1_putThread_79 : decode cX1_putThread 79 = .ok (.getfield 108, 3) := by decide +kernel
theorem dX1_putThread_82 : decode cX1_putThread 82 = .ok (.imul, 1) := by decide +kernel
theorem dX1_putThread_83 : decode cX1_putThread 83 = .ok (.isub, 1) := by decide +kernel
theorem dX1_putThread_84 : decode cX1_putThread 84 = .ok (.iastore, 1) := by decide +kernel
theorem dX1_putThread_85 : decode cX1_putThread 85 = .ok (.aload 4, 2) := by decide +kernel
theorem dX1_putThread_87 : decode cX1_putThread 87 = .ok (.getfield 114, 3) := by decide +kernel
theorem dX1_putThread_90 : decode cX1_putThread 90 = .ok (.astore 6, 2) := by decide +kernel
theorem dX1_putThread_92 : decode cX1_putThread 92 = .ok (.aload 6, 2) := by decide +kernel
theorem dX1_putThread_94 : decode cX1_putThread 94 = .ok (.arraylength, 1) := by decide +kernel
theorem dX1_putThread_95 : decode cX1_putThread 95 = .ok (.istore 7, 2) := by decide +kernel
theorem dX1_putThread_97 : decode cX1_putThread 97 = .ok (.iconst 0, 1) := by decide +kernel
theorem dX1_putThread_98 : decode cX1_putThread 98 = .ok (.istore 8, 2) := by decide +kernel
theorem dX1_putThread_100 : decode cX1_putThread 100 = .ok (.iload 8, 2) := by decide +kernel
theorem dX1_putThread_102 : decode cX1_putThread 102 = .ok (.iload 7, 2) := by decide +kernel
theorem dX1_putThread_104 : decode cX1_putThread 104 = .ok (.if_icmp .ge 46, 3) := by decide +kernel
theorem dX1_putThread_107 : decode cX1_putThread 107 = .ok (.aload 6, 2) := by decide +kernel
theorem dX1_putThread_109 : decode cX1_putThread 109 = .ok (.iload 8, 2) := by decide +kernel
theorem dX1_putThread_111 : decode cX1_putThread 111 = .ok (.iaload, 1) := by decide +kernel
theorem dX1_putThread_112 : decode cX1_putThread 112 = .ok (.istore 9, 2) := by decide +kernel
theorem dX1_putThread_114 : decode cX1_putThread 114 = .ok (.aload_n 0, 1) := by decide +kernel
theorem dX1_putThread_115 : decode cX1_putThread 115 = .ok (.getfield 40, 3) := by decide +kernel
theorem dX1_putThread_118 : decode cX1_putThread 118 = .ok (.iload 9, 2) := by decide +kernel
theorem dX1_putThread_120 : decode cX1_putThread 120 = .ok (.dup2, 1) := by decide +kernel
theorem dX1_putThread_121 : decode cX1_putThread 121 = .ok (.iaload, 1) := by decide +kernel
theorem dX1_putThread_122 : decode cX1_putThread 122 = .ok (.iload_n 2, 1) := by decide +kernel
theorem dX1_putThread_123 : decode cX1_putThread 123 = .ok (.aload_n 0, 1) := by decide +kernel
theorem dX1_putThread_124 : decode cX1_putThread 124 = .ok (.getfield 18, 3) := by decide +kernel
theorem dX1_putThread_127 : decode cX1_putThread 127 = .ok (.iload 5, 2) := by decide +kernel
theorem dX1_putThread_129 : decode cX1_putThread 129 = .ok (.iaload, 1) := by decide +kernel
theorem dX1_putThread_130 : decode cX1_putThread 130 = .ok (.imul, 1) := by decide +kernel
theorem dX1_putThread_131 : decode cX1_putThread 131 = .ok (.iadd, 1) := by decide +kernel
theorem dX1_putThread_132 : decode cX1_putThread 132 = .ok (.iastore, 1) := by decide +kernel
theorem dX1_putThread_133 : decode cX1_putThread 133 = .ok (.aload_n 0, 1) := by decide +kernel
theorem dX1_putThread_134 : decode cX1_putThread 134 = .ok (.getfield 43, 3) := by decide +kernel
theorem dX1_putThread_137 : decode cX1_putThread 137 = .ok (.iload 9, 2) := by decide +kernel
theorem dX1_putThread_139 : decode cX1_putThread 139 = .ok (.dup2, 1) := by decide +kernel
theorem dX1_putThread_140 : decode cX1_putThread 140 = .ok (.iaload, 1) := by decide +kernel
theorem dX1_putThread_141 : decode cX1_putThread 141 = .ok (.iload_n 2, 1) := by decide +kernel
theorem dX1_putThread_142 : decode cX1_putThread 142 = .ok (.iadd, 1) := by decide +kernel
theorem dX1_putThread_143 : decode cX1_putThread 143 = .ok (.iastore, 1) := by decide +kernel
theorem dX1_putThread_144 : decode cX1_putThread 144 = .ok (.iinc 8 1, 3) := by decide +kernel
theorem dX1_putThread_147 : decode cX1_putThread 147 = .ok (.goto (-47), 3) := by decide +kernel
theorem dX1_putThread_150 : decode cX1_putThread 150 = .ok (.return_, 1) := by decide +kernel
theorem dX1_endsAt_0 : decode cX1_endsAt 0 = .ok (.iconst 0, 1) := by decide +kernel
theorem dX1_endsAt_1 : decode cX1_endsAt 1 = .ok (.istore_n 2, 1) := by decide +kernel
theorem dX1_endsAt_2 : decode cX1_endsAt 2 = .ok (.iconst 0, 1) := by decide +kernel
theorem dX1_endsAt_3 : decode cX1_endsAt 3 = .ok (.istore_n 3, 1) := by decide +kernel
theorem dX1_endsAt_4 : decode cX1_endsAt 4 = .ok (.iload_n 3, 1) := by decide +kernel
theorem dX1_endsAt_5 : decode cX1_endsAt 5 = .ok (.aload_n 0, 1) := by decide +kernel
theorem dX1_endsAt_6 : decode cX1_endsAt 6 = .ok (.getfield 68, 3) := by decide +kernel
theorem dX1_endsAt_9 : decode cX1_endsAt 9 = .ok (.if_icmp .ge 32, 3) := by decide +kernel
theorem dX1_endsAt_12 : decode cX1_endsAt 12 = .ok (.aload_n 0, 1) := by decide +kernel
theorem dX1_endsAt_13 : decode cX1_endsAt 13 = .ok (.getfield 28, 3) := by decide +kernel
theorem dX1_endsAt_16 : decode cX1_endsAt 16 = .ok (.iload_n 3, 1) := by decide +kernel
theorem dX1_endsAt_17 : decode cX1_endsAt 17 = .ok (.iaload, 1) := by decide +kernel
theorem dX1_endsAt_18 : decode cX1_endsAt 18 = .ok (.iload_n 1, 1) := by decide +kernel
theorem dX1_endsAt_19 : decode cX1_endsAt 19 = .ok (.if_icmp .eq 13, 3) := by decide +kernel
theorem dX1_endsAt_22 : decode cX1_endsAt 22 = .ok (.aload_n 0, 1) := by decide +kernel
theorem dX1_endsAt_23 : decode cX1_endsAt 23 = .ok (.getfield 31, 3) := by decide +kernel
theorem dX1_endsAt_26 : decode cX1_endsAt 26 = .ok (.iload_n 3, 1) := by decide +kernel
theorem dX1_endsAt_27 : decode cX1_endsAt 27 = .ok (.iaload, 1) := by decide +kernel
theorem dX1_endsAt_28 : decode cX1_endsAt 28 = .ok (.iload_n 1, 1) := by decide +kernel
theorem dX1_endsAt_29 : decode cX1_endsAt 29 = .ok (.if_icmp .ne 6, 3) := by decide +kernel
theorem dX1_endsAt_32 : decode cX1_endsAt 32 = .ok (.iinc 2 1, 3) := by decide +kernel
theorem dX1_endsAt_35 : decode cX1_endsAt 35 = .ok (.iinc 3 1, 3) := by decide +kernel
theorem dX1_endsAt_38 : decode cX1_endsAt 38 = .ok (.goto (-34), 3) := by decide +kernel
theorem dX1_endsAt_41 : decode cX1_endsAt 41 = .ok (.iload_n 2, 1) := by decide +kernel
theorem dX1_endsAt_42 : decode cX1_endsAt 42 = .ok (.ireturn, 1) := by decide +kernel
theorem dX1_chordsOf_0 : decode cX1_chordsOf 0 = .ok (.iconst 0, 1) := by decide +kernel
theorem dX1_chordsOf_1 : decode cX1_chordsOf 1 = .ok (.istore_n 2, 1) := by decide +kernel
theorem dX1_chordsOf_2 : decode cX1_chordsOf 2 = .ok (.iconst 0, 1) := by decide +kernel
theorem dX1_chordsOf_3 : decode cX1_chordsOf 3 = .ok (.istore_n 3, 1) := by decide +kernel
theorem dX1_chordsOf_4 : decode cX1_chordsOf 4 = .ok (.iload_n 3, 1) := by decide +kernel
theorem dX1_chordsOf_5 : decode cX1_chordsOf 5 = .ok (.aload_n 0, 1) := by decide +kernel
theorem dX1_chordsOf_6 : decode cX1_chordsOf 6 = .ok (.getfield 68, 3) := by decide +kernel
theorem dX1_chordsOf_9 : decode cX1_chordsOf 9 = .ok (.if_icmp .ge 22, 3) := by decide +kernel
theorem dX1_chordsOf_12 : decode cX1_chordsOf 12 = .ok (.aload_n 0, 1) := by decide +kernel
theorem dX1_chordsOf_13 : decode cX1_chordsOf 13 = .ok (.getfield 34, 3) := by decide +kernel
theorem dX1_chordsOf_16 : decode cX1_chordsOf 16 = .ok (.iload_n 3, 1) := by decide +kernel
theorem dX1_chordsOf_17 : decode cX1_chordsOf 17 = .ok (.iaload, 1) := by decide +kernel
theorem dX1_chordsOf_18 : decode cX1_chordsOf 18 = .ok (.iload_n 1, 1) := by decide +kernel
theorem dX1_chordsOf_19 : decode cX1_chordsOf 19 = .ok (.if_icmp .ne 6, 3) := by decide +kernel
theorem dX1_chordsOf_22 : decode cX1_chordsOf 22 = .ok (.iinc 2 1, 3) := by decide +kernel
theorem dX1_chordsOf_25 : decode cX1_chordsOf 25 = .ok (.iinc 3 1, 3) := by decide +kernel
theorem dX1_chordsOf_28 : decode cX1_chordsOf 28 = .ok (.goto (-24), 3) := by decide +kernel
theorem dX1_chordsOf_31 : decode cX1_chordsOf 31 = .ok (.iload_n 2, 1) := by decide +kernel
theorem dX1_chordsOf_32 : decode cX1_chordsOf 32 = .ok (.ireturn, 1) := by decide +kernel
theorem dX1_threadLying_0 : decode cX1_threadLying 0 = .ok (.iconst 0, 1) := by decide +kernel
theorem dX1_threadLying_1 : decode cX1_threadLying 1 = .ok (.istore_n 2, 1) := by decide +kernel
theorem dX1_threadLying_2 : decode cX1_threadLying 2 = .ok (.iconst 0, 1) := by decide +kernel
theorem dX1_threadLying_3 : decode cX1_threadLying 3 = .ok (.istore_n 3, 1) := by decide +kernel
theorem dX1_threadLying_4 : decode cX1_threadLying 4 = .ok (.iload_n 3, 1) := by decide +kernel
theorem dX1_threadLying_5 : decode cX1_threadLying 5 = .ok (.aload_n 0, 1) := by decide +kernel
theorem dX1_threadLying_6 : decode cX1_threadLying 6 = .ok (.getfield 68, 3) := by decide +kernel
theorem dX1_threadLying_9 : decode cX1_threadLying 9 = .ok (.if_icmp .ge 41, 3) := by decide +kernel
theorem dX1_threadLying_12 : decode cX1_threadLying 12 = .ok (.aload_n 0, 1) := by decide +kernel
theorem dX1_threadLying_13 : decode cX1_threadLying 13 = .ok (.getfield 34, 3) := by decide +kernel
theorem dX1_threadLying_16 : decode cX1_threadLying 16 = .ok (.iload_n 3, 1) := by decide +kernel
theorem dX1_threadLying_17 : decode cX1_threadLying 17 = .ok (.iaload, 1) := by decide +kernel
theorem dX1_threadLying_18 : decode cX1_threadLying 18 = .ok (.iload_n 1, 1) := by decide +kernel
theorem dX1_threadLying_19 : decode cX1_threadLying 19 = .ok (.if_icmp .ne 25, 3) := by decide +kernel
theorem dX1_threadLying_22 : decode cX1_threadLying 22 = .ok (.iload_n 2, 1) := by decide +kernel
theorem dX1_threadLying_23 : decode cX1_threadLying 23 = .ok (.aload_n 0, 1) := by decide +kernel
theorem dX1_threadLying_24 : decode cX1_threadLying 24 = .ok (.aload_n 0, 1) := by decide +kernel
theorem dX1_threadLying_25 : decode cX1_threadLying 25 = .ok (.getfield 28, 3) := by decide +kernel
theorem dX1_threadLying_28 : decode cX1_threadLying 28 = .ok (.iload_n 3, 1) := by decide +kernel
theorem dX1_threadLying_29 : decode cX1_threadLying 29 = .ok (.iaload, 1) := by decide +kernel
theorem dX1_threadLying_30 : decode cX1_threadLying 30 = .ok (.aload_n 0, 1) := by decide +kernel
theorem dX1_threadLying_31 : decode cX1_threadLying 31 = .ok (.getfield 31, 3) := by decide +kernel
theorem dX1_threadLying_34 : decode cX1_threadLying 34 = .ok (.iload_n 3, 1) := by decide +kernel
theorem dX1_threadLying_35 : decode cX1_threadLying 35 = .ok (.iaload, 1) := by decide +kernel
theorem dX1_threadLying_36 : decode cX1_threadLying 36 = .ok (.invokevirtual 105, 3) := by decide +kernel
theorem dX1_threadLying_39 : decode cX1_threadLying 39 = .ok (.getfield 108, 3) := by decide +kernel
theorem dX1_threadLying_42 : decode cX1_threadLying 42 = .ok (.iadd, 1) := by decide +kernel
theorem dX1_threadLying_43 : decode cX1_threadLying 43 = .ok (.istore_n 2, 1) := by decide +kernel
theorem dX1_threadLying_44 : decode cX1_threadLying 44 = .ok (.iinc 3 1, 3) := by decide +kernel
theorem dX1_threadLying_47 : decode cX1_threadLying 47 = .ok (.goto (-43), 3) := by decide +kernel
theorem dX1_threadLying_50 : decode cX1_threadLying 50 = .ok (.iload_n 2, 1) := by decide +kernel
theorem dX1_threadLying_51 : decode cX1_threadLying 51 = .ok (.ireturn, 1) := by decide +kernel
theorem dX2_init_0 : decode cX2_init 0 = .ok (.aload_n 0, 1) := by decide +kernel
theorem dX2_init_1 : decode cX2_init 1 = .ok (.invokespecial 3, 3) := by decide +kernel
theorem dX2_init_4 : decode cX2_init 4 = .ok (.aload_n 0, 1) := by decide +kernel
theorem dX2_init_5 : decode cX2_init 5 = .ok (.bipush 60, 2) := by decide +kernel
theorem dX2_init_7 : decode cX2_init 7 = .ok (.newarray .char, 2) := by decide +kernel
theorem dX2_init_9 : decode cX2_init 9 = .ok (.putfield 9, 3) := by decide +kernel
theorem dX2_init_12 : decode cX2_init 12 = .ok (.return_, 1) := by decide +kernel
