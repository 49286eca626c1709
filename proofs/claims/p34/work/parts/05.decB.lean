theorem dX3_init_0 : decode cX3_init 0 = .ok (.aload_n 0, 1) := by decide +kernel
theorem dX3_init_1 : decode cX3_init 1 = .ok (.invokespecial 3, 3) := by decide +kernel
theorem dX3_init_4 : decode cX3_init 4 = .ok (.aload_n 0, 1) := by decide +kernel
theorem dX3_init_5 : decode cX3_init 5 = .ok (.sipush 144, 3) := by decide +kernel
theorem dX3_init_8 : decode cX3_init 8 = .ok (.newarray .int, 2) := by decide +kernel
theorem dX3_init_10 : decode cX3_init 10 = .ok (.putfield 9, 3) := by decide +kernel
theorem dX3_init_13 : decode cX3_init 13 = .ok (.aload_n 0, 1) := by decide +kernel
theorem dX3_init_14 : decode cX3_init 14 = .ok (.new 13, 3) := by decide +kernel
theorem dX3_init_17 : decode cX3_init 17 = .ok (.dup, 1) := by decide +kernel
theorem dX3_init_18 : decode cX3_init 18 = .ok (.invokespecial 15, 3) := by decide +kernel
theorem dX3_init_21 : decode cX3_init 21 = .ok (.putfield 16, 3) := by decide +kernel
theorem dX3_init_24 : decode cX3_init 24 = .ok (.aload_n 0, 1) := by decide +kernel
theorem dX3_init_25 : decode cX3_init 25 = .ok (.iconst 2, 1) := by decide +kernel
theorem dX3_init_26 : decode cX3_init 26 = .ok (.anewarray 20, 3) := by decide +kernel
theorem dX3_init_29 : decode cX3_init 29 = .ok (.putfield 22, 3) := by decide +kernel
theorem dX3_init_32 : decode cX3_init 32 = .ok (.aload_n 0, 1) := by decide +kernel
theorem dX3_init_33 : decode cX3_init 33 = .ok (.bipush 6, 2) := by decide +kernel
theorem dX3_init_35 : decode cX3_init 35 = .ok (.anewarray 20, 3) := by decide +kernel
theorem dX3_init_38 : decode cX3_init 38 = .ok (.putfield 26, 3) := by decide +kernel
theorem dX3_init_41 : decode cX3_init 41 = .ok (.sipush 276, 3) := by decide +kernel
theorem dX3_init_44 : decode cX3_init 44 = .ok (.anewarray 29, 3) := by decide +kernel
theorem dX3_init_47 : decode cX3_init 47 = .ok (.astore_n 1, 1) := by decide +kernel
theorem dX3_init_48 : decode cX3_init 48 = .ok (.aload_n 0, 1) := by decide +kernel
theorem dX3_init_49 : decode cX3_init 49 = .ok (.new 20, 3) := by decide +kernel
theorem dX3_init_52 : decode cX3_init 52 = .ok (.dup, 1) := by decide +kernel
theorem dX3_init_53 : decode cX3_init 53 = .ok (.aload_n 1, 1) := by decide +kernel
theorem dX3_init_54 : decode cX3_init 54 = .ok (.invokespecial 31, 3) := by decide +kernel
theorem dX3_init_57 : decode cX3_init 57 = .ok (.putfield 34, 3) := by decide +kernel
theorem dX3_init_60 : decode cX3_init 60 = .ok (.aload_n 0, 1) := by decide +kernel
theorem dX3_init_61 : decode cX3_init 61 = .ok (.new 20, 3) := by decide +kernel
theorem dX3_init_64 : decode cX3_init 64 = .ok (.dup, 1) := by decide +kernel
theorem dX3_init_65 : decode cX3_init 65 = .ok (.aload_n 1, 1) := by decide +kernel
theorem dX3_init_66 : decode cX3_init 66 = .ok (.invokespecial 31, 3) := by decide +kernel
theorem dX3_init_69 : decode cX3_init 69 = .ok (.putfield 38, 3) := by decide +kernel
theorem dX3_init_72 : decode cX3_init 72 = .ok (.return_, 1) := by decide +kernel
theorem dX3_nails_0 : decode cX3_nails 0 = .ok (.iload_n 1, 1) := by decide +kernel
theorem dX3_nails_1 : decode cX3_nails 1 = .ok (.invokestatic 41, 3) := by decide +kernel
theorem dX3_nails_4 : decode cX3_nails 4 = .ok (.istore_n 2, 1) := by decide +kernel
theorem dX3_nails_5 : decode cX3_nails 5 = .ok (.iload_n 2, 1) := by decide +kernel
theorem dX3_nails_6 : decode cX3_nails 6 = .ok (.iconst (-1), 1) := by decide +kernel
theorem dX3_nails_7 : decode cX3_nails 7 = .ok (.if_icmp .ne 13, 3) := by decide +kernel
theorem dX3_nails_10 : decode cX3_nails 10 = .ok (.new 45, 3) := by decide +kernel
theorem dX3_nails_13 : decode cX3_nails 13 = .ok (.dup, 1) := by decide +kernel
theorem dX3_nails_14 : decode cX3_nails 14 = .ok (.ldc 47, 2) := by decide +kernel
theorem dX3_nails_16 : decode cX3_nails 16 = .ok (.invokespecial 49, 3) := by decide +kernel
theorem dX3_nails_19 : decode cX3_nails 19 = .ok (.athrow, 1) := by decide +kernel
theorem dX3_nails_20 : decode cX3_nails 20 = .ok (.aload_n 0, 1) := by decide +kernel
theorem dX3_nails_21 : decode cX3_nails 21 = .ok (.invokevirtual 52, 3) := by decide +kernel
theorem dX3_nails_24 : decode cX3_nails 24 = .ok (.aload_n 0, 1) := by decide +kernel
theorem dX3_nails_25 : decode cX3_nails 25 = .ok (.getfield 34, 3) := by decide +kernel
theorem dX3_nails_28 : decode cX3_nails 28 = .ok (.getfield 55, 3) := by decide +kernel
theorem dX3_nails_31 : decode cX3_nails 31 = .ok (.istore_n 3, 1) := by decide +kernel
theorem dX3_nails_32 : decode cX3_nails 32 = .ok (.aload_n 0, 1) := by decide +kernel
theorem dX3_nails_33 : decode cX3_nails 33 = .ok (.getfield 34, 3) := by decide +kernel
theorem dX3_nails_36 : decode cX3_nails 36 = .ok (.invokevirtual 59, 3) := by decide +kernel
theorem dX3_nails_39 : decode cX3_nails 39 = .ok (.aload_n 0, 1) := by decide +kernel
theorem dX3_nails_40 : decode cX3_nails 40 = .ok (.getfield 34, 3) := by decide +kernel
theorem dX3_nails_43 : decode cX3_nails 43 = .ok (.iload_n 1, 1) := by decide +kernel
theorem dX3_nails_44 : decode cX3_nails 44 = .ok (.putfield 55, 3) := by decide +kernel
theorem dX3_nails_47 : decode cX3_nails 47 = .ok (.aload_n 0, 1) := by decide +kernel
theorem dX3_nails_48 : decode cX3_nails 48 = .ok (.getfield 34, 3) := by decide +kernel
theorem dX3_nails_51 : decode cX3_nails 51 = .ok (.iload_n 2, 1) := by decide +kernel
theorem dX3_nails_52 : decode cX3_nails 52 = .ok (.putfield 62, 3) := by decide +kernel
theorem dX3_nails_55 : decode cX3_nails 55 = .ok (.aload_n 0, 1) := by decide +kernel
theorem dX3_nails_56 : decode cX3_nails 56 = .ok (.getfield 34, 3) := by decide +kernel
theorem dX3_nails_59 : decode cX3_nails 59 = .ok (.iconst 0, 1) := by decide +kernel
theorem dX3_nails_60 : decode cX3_nails 60 = .ok (.putfield 65, 3) := by decide +kernel
theorem dX3_nails_63 : decode cX3_nails 63 = .ok (.iload_n 3, 1) := by decide +kernel
theorem dX3_nails_64 : decode cX3_nails 64 = .ok (.ireturn, 1) := by decide +kernel
theorem dX3_spool_0 : decode cX3_spool 0 = .ok (.iload_n 1, 1) := by decide +kernel
theorem dX3_spool_1 : decode cX3_spool 1 = .ok (.invokestatic 68, 3) := by decide +kernel
theorem dX3_spool_4 : decode cX3_spool 4 = .ok (.iload_n 2, 1) := by decide +kernel
theorem dX3_spool_5 : decode cX3_spool 5 = .ok (.iconst 1, 1) := by decide +kernel
theorem dX3_spool_6 : decode cX3_spool 6 = .ok (.bipush 9, 2) := by decide +kernel
theorem dX3_spool_8 : decode cX3_spool 8 = .ok (.invokestatic 72, 3) := by decide +kernel
theorem dX3_spool_11 : decode cX3_spool 11 = .ok (.iload_n 3, 1) := by decide +kernel
theorem dX3_spool_12 : decode cX3_spool 12 = .ok (.iconst 0, 1) := by decide +kernel
theorem dX3_spool_13 : decode cX3_spool 13 = .ok (.sipush 9999, 3) := by decide +kernel
theorem dX3_spool_16 : decode cX3_spool 16 = .ok (.invokestatic 72, 3) := by decide +kernel
theorem dX3_spool_19 : decode cX3_spool 19 = .ok (.iload_n 1, 1) := by decide +kernel
theorem dX3_spool_20 : decode cX3_spool 20 = .ok (.aload_n 0, 1) := by decide +kernel
theorem dX3_spool_21 : decode cX3_spool 21 = .ok (.getfield 34, 3) := by decide +kernel
theorem dX3_spool_24 : decode cX3_spool 24 = .ok (.getfield 76, 3) := by decide +kernel
theorem dX3_spool_27 : decode cX3_spool 27 = .ok (.if_icmp .eq 14, 3) := by decide +kernel
theorem dX3_spool_30 : decode cX3_spool 30 = .ok (.aload_n 0, 1) := by decide +kernel
theorem dX3_spool_31 : decode cX3_spool 31 = .ok (.getfield 34, 3) := by decide +kernel
theorem dX3_spool_34 : decode cX3_spool 34 = .ok (.iload_n 1, 1) := by decide +kernel
theorem dX3_spool_35 : decode cX3_spool 35 = .ok (.invokevirtual 79, 3) := by decide +kernel
theorem dX3_spool_38 : decode cX3_spool 38 = .ok (.ifCond .le 13, 3) := by decide +kernel
theorem dX3_spool_41 : decode cX3_spool 41 = .ok (.new 82, 3) := by decide +kernel
theorem dX3_spool_44 : decode cX3_spool 44 = .ok (.dup, 1) := by decide +kernel
theorem dX3_spool_45 : decode cX3_spool 45 = .ok (.ldc 84, 2) := by decide +kernel
theorem dX3_spool_47 : decode cX3_spool 47 = .ok (.invokespecial 86, 3) := by decide +kernel
theorem dX3_spool_50 : decode cX3_spool 50 = .ok (.athrow, 1) := by decide +kernel
theorem dX3_spool_51 : decode cX3_spool 51 = .ok (.aload_n 0, 1) := by decide +kernel
theorem dX3_spool_52 : decode cX3_spool 52 = .ok (.invokevirtual 52, 3) := by decide +kernel
theorem dX3_spool_55 : decode cX3_spool 55 = .ok (.aload_n 0, 1) := by decide +kernel
theorem dX3_spool_56 : decode cX3_spool 56 = .ok (.getfield 34, 3) := by decide +kernel
theorem dX3_spool_59 : decode cX3_spool 59 = .ok (.getfield 87, 3) := by decide +kernel
theorem dX3_spool_62 : decode cX3_spool 62 = .ok (.iload_n 1, 1) := by decide +kernel
theorem dX3_spool_63 : decode cX3_spool 63 = .ok (.iaload, 1) := by decide +kernel
theorem dX3_spool_64 : decode cX3_spool 64 = .ok (.istore 4, 2) := by decide +kernel
theorem dX3_spool_66 : decode cX3_spool 66 = .ok (.aload_n 0, 1) := by decide +kernel
theorem dX3_spool_67 : decode cX3_spool 67 = .ok (.getfield 34, 3) := by decide +kernel
theorem dX3_spool_70 : decode cX3_spool 70 = .ok (.getfield 90, 3) := by decide +kernel
theorem dX3_spool_73 : decode cX3_spool 73 = .ok (.iload_n 1, 1) := by decide +kernel
theorem dX3_spool_74 : decode cX3_spool 74 = .ok (.iload_n 2, 1) := by decide +kernel
theorem dX3_spool_75 : decode cX3_spool 75 = .ok (.iastore, 1) := by decide +kernel
theorem dX3_spool_76 : decode cX3_spool 76 = .ok (.aload_n 0, 1) := by decide +kernel
theorem dX3_spool_77 : decode cX3_spool 77 = .ok (.getfield 34, 3) := by decide +kernel
theorem dX3_spool_80 : decode cX3_spool 80 = .ok (.getfield 87, 3) := by decide +kernel
theorem dX3_spool_83 : decode cX3_spool 83 = .ok (.iload_n 1, 1) := by decide +kernel
theorem dX3_spool_84 : decode cX3_spool 84 = .ok (.iload_n 3, 1) := by decide +kernel
theorem dX3_spool_85 : decode cX3_spool 85 = .ok (.iastore, 1) := by decide +kernel
theorem dX3_spool_86 : decode cX3_spool 86 = .ok (.iload 4, 2) := by decide +kernel
theorem dX3_spool_88 : decode cX3_spool 88 = .ok (.ireturn, 1) := by decide +kernel
theorem dX3_knot_0 : decode cX3_knot 0 = .ok (.iload_n 1, 1) := by decide +kernel
theorem dX3_knot_1 : decode cX3_knot 1 = .ok (.invokestatic 68, 3) := by decide +kernel
theorem dX3_knot_4 : decode cX3_knot 4 = .ok (.iload_n 1, 1) := by decide +kernel
theorem dX3_knot_5 : decode cX3_knot 5 = .ok (.aload_n 0, 1) := by decide +kernel
theorem dX3_knot_6 : decode cX3_knot 6 = .ok (.getfield 34, 3) := by decide +kernel
theorem dX3_knot_9 : decode cX3_knot 9 = .ok (.getfield 76, 3) := by decide +kernel
theorem dX3_knot_12 : decode cX3_knot 12 = .ok (.if_icmp .ne 13, 3) := by decide +kernel
theorem dX3_knot_15 : decode cX3_knot 15 = .ok (.new 82, 3) := by decide +kernel
theorem dX3_knot_18 : decode cX3_knot 18 = .ok (.dup, 1) := by decide +kernel
theorem dX3_knot_19 : decode cX3_knot 19 = .ok (.ldc 93, 2) := by decide +kernel
theorem dX3_knot_21 : decode cX3_knot 21 = .ok (.invokespecial 86, 3) := by decide +kernel
theorem dX3_knot_24 : decode cX3_knot 24 = .ok (.athrow, 1) := by decide +kernel
theorem dX3_knot_25 : decode cX3_knot 25 = .ok (.aload_n 0, 1) := by decide +kernel
theorem dX3_knot_26 : decode cX3_knot 26 = .ok (.invokevirtual 52, 3) := by decide +kernel
theorem dX3_knot_29 : decode cX3_knot 29 = .ok (.aload_n 0, 1) := by decide +kernel
theorem dX3_knot_30 : decode cX3_knot 30 = .ok (.getfield 34, 3) := by decide +kernel
theorem dX3_knot_33 : decode cX3_knot 33 = .ok (.iload_n 1, 1) := by decide +kernel
theorem dX3_knot_34 : decode cX3_knot 34 = .ok (.putfield 76, 3) := by decide +kernel
theorem dX3_knot_37 : decode cX3_knot 37 = .ok (.aload_n 0, 1) := by decide +kernel
theorem dX3_knot_38 : decode cX3_knot 38 = .ok (.getfield 34, 3) := by decide +kernel
theorem dX3_knot_41 : decode cX3_knot 41 = .ok (.dup, 1) := by decide +kernel
theorem dX3_knot_42 : decode cX3_knot 42 = .ok (.getfield 95, 3) := by decide +kernel
theorem dX3_knot_45 : decode cX3_knot 45 = .ok (.iconst 1, 1) := by decide +kernel
theorem dX3_knot_46 : decode cX3_knot 46 = .ok (.iadd, 1) := by decide +kernel
theorem dX3_knot_47 : decode cX3_knot 47 = .ok (.putfield 95, 3) := by decide +kernel
theorem dX3_knot_50 : decode cX3_knot 50 = .ok (.aload_n 0, 1) := by decide +kernel
theorem dX3_knot_51 : decode cX3_knot 51 = .ok (.getfield 34, 3) := by decide +kernel
theorem dX3_knot_54 : decode cX3_knot 54 = .ok (.getfield 95, 3) := by decide +kernel
theorem dX3_knot_57 : decode cX3_knot 57 = .ok (.ireturn, 1) := by decide +kernel
theorem dX3_set_0 : decode cX3_set 0 = .ok (.iload_n 1, 1) := by decide +kernel
theorem dX3_set_1 : decode cX3_set 1 = .ok (.invokestatic 98, 3) := by decide +kernel
theorem dX3_set_4 : decode cX3_set 4 = .ok (.iload_n 2, 1) := by decide +kernel
theorem dX3_set_5 : decode cX3_set 5 = .ok (.iconst 1, 1) := by decide +kernel
theorem dX3_set_6 : decode cX3_set 6 = .ok (.getstatic 101, 3) := by decide +kernel
theorem dX3_set_9 : decode cX3_set 9 = .ok (.iload_n 1, 1) := by decide +kernel
theorem dX3_set_10 : decode cX3_set 10 = .ok (.iaload, 1) := by decide +kernel
theorem dX3_set_11 : decode cX3_set 11 = .ok (.invokestatic 72, 3) := by decide +kernel
theorem dX3_set_14 : decode cX3_set 14 = .ok (.aload_n 0, 1) := by decide +kernel
theorem dX3_set_15 : decode cX3_set 15 = .ok (.invokevirtual 52, 3) := by decide +kernel
theorem dX3_set_18 : decode cX3_set 18 = .ok (.aload_n 0, 1) := by decide +kernel
theorem dX3_set_19 : decode cX3_set 19 = .ok (.getfield 34, 3) := by decide +kernel
theorem dX3_set_22 : decode cX3_set 22 = .ok (.getfield 104, 3) := by decide +kernel
theorem dX3_set_25 : decode cX3_set 25 = .ok (.iload_n 1, 1) := by decide +kernel
theorem dX3_set_26 : decode cX3_set 26 = .ok (.iaload, 1) := by decide +kernel
theorem dX3_set_27 : decode cX3_set 27 = .ok (.istore_n 3, 1) := by decide +kernel
theorem dX3_set_28 : decode cX3_set 28 = .ok (.aload_n 0, 1) := by decide +kernel
theorem dX3_set_29 : decode cX3_set 29 = .ok (.getfield 34, 3) := by decide +kernel
theorem dX3_set_32 : decode cX3_set 32 = .ok (.getfield 104, 3) := by decide +kernel
theorem dX3_set_35 : decode cX3_set 35 = .ok (.iload_n 1, 1) := by decide +kernel
theorem dX3_set_36 : decode cX3_set 36 = .ok (.iload_n 2, 1) := by decide +kernel
theorem dX3_set_37 : decode cX3_set 37 = .ok (.iastore, 1) := by decide +kernel
theorem dX3_set_38 : decode cX3_set 38 = .ok (.iload_n 3, 1) := by decide +kernel
theorem dX3_set_39 : decode cX3_set 39 = .ok (.ireturn, 1) := by decide +kernel
theorem dX3_wind_0 : decode cX3_wind 0 = .ok (.aload_n 0, 1) := by decide +kernel
theorem dX3_wind_1 : decode cX3_wind 1 = .ok (.iload_n 1, 1) := by decide +kernel
theorem dX3_wind_2 : decode cX3_wind 2 = .ok (.invokevirtual 107, 3) := by decide +kernel
theorem dX3_wind_5 : decode cX3_wind 5 = .ok (.aload_n 0, 1) := by decide +kernel
theorem dX3_wind_6 : decode cX3_wind 6 = .ok (.getfield 34, 3) := by decide +kernel
theorem dX3_wind_9 : decode cX3_wind 9 = .ok (.getfield 110, 3) := by decide +kernel
theorem dX3_wind_12 : decode cX3_wind 12 = .ok (.sipush 200, 3) := by decide +kernel
theorem dX3_wind_15 : decode cX3_wind 15 = .ok (.if_icmp .lt 13, 3) := by decide +kernel
theorem dX3_wind_18 : decode cX3_wind 18 = .ok (.new 82, 3) := by decide +kernel
theorem dX3_wind_21 : decode cX3_wind 21 = .ok (.dup, 1) := by decide +kernel
theorem dX3_wind_22 : decode cX3_wind 22 = .ok (.ldc 113, 2) := by decide +kernel
theorem dX3_wind_24 : decode cX3_wind 24 = .ok (.invokespecial 86, 3) := by decide +kernel
theorem dX3_wind_27 : decode cX3_wind 27 = .ok (.athrow, 1) := by decide +kernel
theorem dX3_wind_28 : decode cX3_wind 28 = .ok (.aload_n 0, 1) := by decide +kernel
theorem dX3_wind_29 : decode cX3_wind 29 = .ok (.invokevirtual 52, 3) := by decide +kernel
theorem dX3_wind_32 : decode cX3_wind 32 = .ok (.aload_n 0, 1) := by decide +kernel
theorem dX3_wind_33 : decode cX3_wind 33 = .ok (.getfield 34, 3) := by decide +kernel
theorem dX3_wind_36 : decode cX3_wind 36 = .ok (.iload_n 1, 1) := by decide +kernel
theorem dX3_wind_37 : decode cX3_wind 37 = .ok (.invokevirtual 115, 3) := by decide +kernel
theorem dX3_wind_40 : decode cX3_wind 40 = .ok (.istore_n 2, 1) := by decide +kernel
theorem dX3_wind_41 : decode cX3_wind 41 = .ok (.iload_n 2, 1) := by decide +kernel
theorem dX3_wind_42 : decode cX3_wind 42 = .ok (.ifCond .ne 27, 3) := by decide +kernel
theorem dX3_wind_45 : decode cX3_wind 45 = .ok (.aload_n 0, 1) := by decide +kernel
theorem dX3_wind_46 : decode cX3_wind 46 = .ok (.getfield 34, 3) := by decide +kernel
theorem dX3_wind_49 : decode cX3_wind 49 = .ok (.iload_n 1, 1) := by decide +kernel
theorem dX3_wind_50 : decode cX3_wind 50 = .ok (.invokevirtual 118, 3) := by decide +kernel
theorem dX3_wind_53 : decode cX3_wind 53 = .ok (.aload_n 0, 1) := by decide +kernel
theorem dX3_wind_54 : decode cX3_wind 54 = .ok (.getfield 34, 3) := by decide +kernel
theorem dX3_wind_57 : decode cX3_wind 57 = .ok (.dup, 1) := by decide +kernel
theorem dX3_wind_58 : decode cX3_wind 58 = .ok (.getfield 121, 3) := by decide +kernel
theorem dX3_wind_61 : decode cX3_wind 61 = .ok (.iconst 1, 1) := by decide +kernel
theorem dX3_wind_62 : decode cX3_wind 62 = .ok (.iadd, 1) := by decide +kernel
theorem dX3_wind_63 : decode cX3_wind 63 = .ok (.putfield 121, 3) := by decide +kernel
theorem dX3_wind_66 : decode cX3_wind 66 = .ok (.goto 16, 3) := by decide +kernel
theorem dX3_wind_69 : decode cX3_wind 69 = .ok (.aload_n 0, 1) := by decide +kernel
theorem dX3_wind_70 : decode cX3_wind 70 = .ok (.getfield 34, 3) := by decide +kernel
theorem dX3_wind_73 : decode cX3_wind 73 = .ok (.dup, 1) := by decide +kernel
theorem dX3_wind_74 : decode cX3_wind 74 = .ok (.getfield 124, 3) := by decide +kernel
theorem dX3_wind_77 : decode cX3_wind 77 = .ok (.iconst 1, 1) := by decide +kernel
theorem dX3_wind_78 : decode cX3_wind 78 = .ok (.iadd, 1) := by decide +kernel
theorem dX3_wind_79 : decode cX3_wind 79 = .ok (.putfield 124, 3) := by decide +kernel
theorem dX3_wind_82 : decode cX3_wind 82 = .ok (.iload_n 2, 1) := by decide +kernel
theorem dX3_wind_83 : decode cX3_wind 83 = .ok (.ireturn, 1) := by decide +kernel
theorem dX3_unwind_0 : decode cX3_unwind 0 = .ok (.aload_n 0, 1) := by decide +kernel
theorem dX3_unwind_1 : decode cX3_unwind 1 = .ok (.getfield 34, 3) := by decide +kernel
theorem dX3_unwind_4 : decode cX3_unwind 4 = .ok (.getfield 110, 3) := by decide +kernel
theorem dX3_unwind_7 : decode cX3_unwind 7 = .ok (.ifCond .ne 13, 3) := by decide +kernel
theorem dX3_unwind_10 : decode cX3_unwind 10 = .ok (.new 82, 3) := by decide +kernel
theorem dX3_unwind_13 : decode cX3_unwind 13 = .ok (.dup, 1) := by decide +kernel
theorem dX3_unwind_14 : decode cX3_unwind 14 = .ok (.ldc 127, 2) := by decide +kernel
theorem dX3_unwind_16 : decode cX3_unwind 16 = .ok (.invokespecial 86, 3) := by decide +kernel
theorem dX3_unwind_19 : decode cX3_unwind 19 = .ok (.athrow, 1) := by decide +kernel
theorem dX3_unwind_20 : decode cX3_unwind 20 = .ok (.aload_n 0, 1) := by decide +kernel
theorem dX3_unwind_21 : decode cX3_unwind 21 = .ok (.invokevirtual 52, 3) := by decide +kernel
theorem dX3_unwind_24 : decode cX3_unwind 24 = .ok (.aload_n 0, 1) := by decide +kernel
theorem dX3_unwind_25 : decode cX3_unwind 25 = .ok (.getfield 34, 3) := by decide +kernel
theorem dX3_unwind_28 : decode cX3_unwind 28 = .ok (.invokevirtual 129, 3) := by decide +kernel
theorem dX3_unwind_31 : decode cX3_unwind 31 = .ok (.aload_n 0, 1) := by decide +kernel
theorem dX3_unwind_32 : decode cX3_unwind 32 = .ok (.getfield 34, 3) := by decide +kernel
theorem dX3_unwind_35 : decode cX3_unwind 35 = .ok (.getfield 65, 3) := by decide +kernel
theorem dX3_unwind_38 : decode cX3_unwind 38 = .ok (.ireturn, 1) := by decide +kernel
theorem dX3_windBest_0 : decode cX3_windBest 0 = .ok (.iload_n 1, 1) := by decide +kernel
theorem dX3_windBest_1 : decode cX3_windBest 1 = .ok (.iconst 1, 1) := by decide +kernel
theorem dX3_windBest_2 : decode cX3_windBest 2 = .ok (.bipush 50, 2) := by decide +kernel
theorem dX3_windBest_4 : decode cX3_windBest 4 = .ok (.invokestatic 72, 3) := by decide +kernel
theorem dX3_windBest_7 : decode cX3_windBest 7 = .ok (.aload_n 0, 1) := by decide +kernel
theorem dX3_windBest_8 : decode cX3_windBest 8 = .ok (.invokevirtual 52, 3) := by decide +kernel
theorem dX3_windBest_11 : decode cX3_windBest 11 = .ok (.iconst 0, 1) := by decide +kernel
theorem dX3_windBest_12 : decode cX3_windBest 12 = .ok (.istore_n 2, 1) := by decide +kernel
theorem dX3_windBest_13 : decode cX3_windBest 13 = .ok (.iload_n 2, 1) := by decide +kernel
theorem dX3_windBest_14 : decode cX3_windBest 14 = .ok (.iload_n 1, 1) := by decide +kernel
theorem dX3_windBest_15 : decode cX3_windBest 15 = .ok (.if_icmp .ge 69, 3) := by decide +kernel
theorem dX3_windBest_18 : decode cX3_windBest 18 = .ok (.aload_n 0, 1) := by decide +kernel
theorem dX3_windBest_19 : decode cX3_windBest 19 = .ok (.getfield 34, 3) := by decide +kernel
theorem dX3_windBest_22 : decode cX3_windBest 22 = .ok (.invokevirtual 132, 3) := by decide +kernel
theorem dX3_windBest_25 : decode cX3_windBest 25 = .ok (.istore_n 3, 1) := by decide +kernel
theorem dX3_windBest_26 : decode cX3_windBest 26 = .ok (.iload_n 3, 1) := by decide +kernel
theorem dX3_windBest_27 : decode cX3_windBest 27 = .ok (.iconst (-1), 1) := by decide +kernel
theorem dX3_windBest_28 : decode cX3_windBest 28 = .ok (.if_icmp .eq 27, 3) := by decide +kernel
theorem dX3_windBest_31 : decode cX3_windBest 31 = .ok (.aload_n 0, 1) := by decide +kernel
theorem dX3_windBest_32 : decode cX3_windBest 32 = .ok (.getfield 34, 3) := by decide +kernel
theorem dX3_windBest_35 : decode cX3_windBest 35 = .ok (.getfield 110, 3) := by decide +kernel
theorem dX3_windBest_38 : decode cX3_windBest 38 = .ok (.sipush 200, 3) := by decide +kernel
theorem dX3_windBest_41 : decode cX3_windBest 41 = .ok (.if_icmp .ge 14, 3) := by decide +kernel
theorem dX3_windBest_44 : decode cX3_windBest 44 = .ok (.aload_n 0, 1) := by decide +kernel
theorem dX3_windBest_45 : decode cX3_windBest 45 = .ok (.getfield 34, 3) := by decide +kernel
theorem dX3_windBest_48 : decode cX3_windBest 48 = .ok (.iload_n 3, 1) := by decide +kernel
theorem dX3_windBest_49 : decode cX3_windBest 49 = .ok (.invokevirtual 136, 3) := by decide +kernel
theorem dX3_windBest_52 : decode cX3_windBest 52 = .ok (.ifCond .gt 5, 3) := by decide +kernel
theorem dX3_windBest_55 : decode cX3_windBest 55 = .ok (.iload_n 2, 1) := by decide +kernel
theorem dX3_windBest_56 : decode cX3_windBest 56 = .ok (.ireturn, 1) := by decide +kernel
theorem dX3_windBest_57 : decode cX3_windBest 57 = .ok (.aload_n 0, 1) := by decide +kernel
theorem dX3_windBest_58 : decode cX3_windBest 58 = .ok (.getfield 34, 3) := by decide +kernel
theorem dX3_windBest_61 : decode cX3_windBest 61 = .ok (.iload_n 3, 1) := by decide +kernel
theorem dX3_windBest_62 : decode cX3_windBest 62 = .ok (.invokevirtual 118, 3) := by decide +kernel
theorem dX3_windBest_65 : decode cX3_windBest 65 = .ok (.aload_n 0, 1) := by decide +kernel
theorem dX3_windBest_66 : decode cX3_windBest 66 = .ok (.getfield 34, 3) := by decide +kernel
theorem dX3_windBest_69 : decode cX3_windBest 69 = .ok (.dup, 1) := by decide +kernel
theorem dX3_windBest_70 : decode cX3_windBest 70 = .ok (.getfield 121, 3) := by decide +kernel
theorem dX3_windBest_73 : decode cX3_windBest 73 = .ok (.iconst 1, 1) := by decide +kernel
theorem dX3_windBest_74 : decode cX3_windBest 74 = .ok (.iadd, 1) := by decide +kernel
theorem dX3_windBest_75 : decode cX3_windBest 75 = .ok (.putfield 121, 3) := by decide +kernel
theorem dX3_windBest_78 : decode cX3_windBest 78 = .ok (.iinc 2 1, 3) := by decide +kernel
theorem dX3_windBest_81 : decode cX3_windBest 81 = .ok (.goto (-68), 3) := by decide +kernel
theorem dX3_windBest_84 : decode cX3_windBest 84 = .ok (.iload_n 1, 1) := by decide +kernel
theorem dX3_windBest_85 : decode cX3_windBest 85 = .ok (.ireturn, 1) := by decide +kernel
theorem dX3_want_0 : decode cX3_want 0 = .ok (.iload_n 1, 1) := by decide +kernel
theorem dX3_want_1 : decode cX3_want 1 = .ok (.iload_n 2, 1) := by decide +kernel
theorem dX3_want_2 : decode cX3_want 2 = .ok (.invokestatic 139, 3) := by decide +kernel
theorem dX3_want_5 : decode cX3_want 5 = .ok (.iload_n 3, 1) := by decide +kernel
theorem dX3_want_6 : decode cX3_want 6 = .ok (.iconst 0, 1) := by decide +kernel
theorem dX3_want_7 : decode cX3_want 7 = .ok (.bipush 9, 2) := by decide +kernel
theorem dX3_want_9 : decode cX3_want 9 = .ok (.invokestatic 72, 3) := by decide +kernel
theorem dX3_want_12 : decode cX3_want 12 = .ok (.aload_n 0, 1) := by decide +kernel
theorem dX3_want_13 : decode cX3_want 13 = .ok (.invokevirtual 52, 3) := by decide +kernel
theorem dX3_want_16 : decode cX3_want 16 = .ok (.iload_n 2, 1) := by decide +kernel
theorem dX3_want_17 : decode cX3_want 17 = .ok (.bipush 12, 2) := by decide +kernel
theorem dX3_want_19 : decode cX3_want 19 = .ok (.imul, 1) := by decide +kernel
theorem dX3_want_20 : decode cX3_want 20 = .ok (.iload_n 1, 1) := by decide +kernel
theorem dX3_want_21 : decode cX3_want 21 = .ok (.iadd, 1) := by decide +kernel
theorem dX3_want_22 : decode cX3_want 22 = .ok (.istore 4, 2) := by decide +kernel
theorem dX3_want_24 : decode cX3_want 24 = .ok (.aload_n 0, 1) := by decide +kernel
theorem dX3_want_25 : decode cX3_want 25 = .ok (.getfield 34, 3) := by decide +kernel
theorem dX3_want_28 : decode cX3_want 28 = .ok (.getfield 143, 3) := by decide +kernel
theorem dX3_want_31 : decode cX3_want 31 = .ok (.iload 4, 2) := by decide +kernel
theorem dX3_want_33 : decode cX3_want 33 = .ok (.iaload, 1) := by decide +kernel
theorem dX3_want_34 : decode cX3_want 34 = .ok (.istore 5, 2) := by decide +kernel
theorem dX3_want_36 : decode cX3_want 36 = .ok (.aload_n 0, 1) := by decide +kernel
theorem dX3_want_37 : decode cX3_want 37 = .ok (.getfield 34, 3) := by decide +kernel
theorem dX3_want_40 : decode cX3_want 40 = .ok (.getfield 143, 3) := by decide +kernel
theorem dX3_want_43 : decode cX3_want 43 = .ok (.iload 4, 2) := by decide +kernel
theorem dX3_want_45 : decode cX3_want 45 = .ok (.iload_n 3, 1) := by decide +kernel
theorem dX3_want_46 : decode cX3_want 46 = .ok (.iastore, 1) := by decide +kernel
theorem dX3_want_47 : decode cX3_want 47 = .ok (.iload 5, 2) := by decide +kernel
theorem dX3_want_49 : decode cX3_want 49 = .ok (.ireturn, 1) := by decide +kernel
theorem dX3_turnFace_0 : decode cX3_turnFace 0 = .ok (.iload_n 1, 1) := by decide +kernel
theorem dX3_turnFace_1 : decode cX3_turnFace 1 = .ok (.iconst 0, 1) := by decide +kernel
theorem dX3_turnFace_2 : decode cX3_turnFace 2 = .ok (.iconst 2, 1) := by decide +kernel
theorem dX3_turnFace_3 : decode cX3_turnFace 3 = .ok (.invokestatic 72, 3) := by decide +kernel
theorem dX3_turnFace_6 : decode cX3_turnFace 6 = .ok (.aload_n 0, 1) := by decide +kernel
theorem dX3_turnFace_7 : decode cX3_turnFace 7 = .ok (.invokevirtual 52, 3) := by decide +kernel
theorem dX3_turnFace_10 : decode cX3_turnFace 10 = .ok (.aload_n 0, 1) := by decide +kernel
theorem dX3_turnFace_11 : decode cX3_turnFace 11 = .ok (.getfield 34, 3) := by decide +kernel
theorem dX3_turnFace_14 : decode cX3_turnFace 14 = .ok (.getfield 143, 3) := by decide +kernel
theorem dX3_turnFace_17 : decode cX3_turnFace 17 = .ok (.iconst 0, 1) := by decide +kernel
theorem dX3_turnFace_18 : decode cX3_turnFace 18 = .ok (.aload_n 0, 1) := by decide +kernel
theorem dX3_turnFace_19 : decode cX3_turnFace 19 = .ok (.getfield 9, 3) := by decide +kernel
theorem dX3_turnFace_22 : decode cX3_turnFace 22 = .ok (.iconst 0, 1) := by decide +kernel
theorem dX3_turnFace_23 : decode cX3_turnFace 23 = .ok (.sipush 144, 3) := by decide +kernel
theorem dX3_turnFace_26 : decode cX3_turnFace 26 = .ok (.invokestatic 146, 3) := by decide +kernel
theorem dX3_turnFace_29 : decode cX3_turnFace 29 = .ok (.iconst 0, 1) := by decide +kernel
theorem dX3_turnFace_30 : decode cX3_turnFace 30 = .ok (.istore_n 2, 1) := by decide +kernel
theorem dX3_turnFace_31 : decode cX3_turnFace 31 = .ok (.iload_n 2, 1) := by decide +kernel
theorem dX3_turnFace_32 : decode cX3_turnFace 32 = .ok (.bipush 12, 2) := by decide +kernel
theorem dX3_turnFace_34 : decode cX3_turnFace 34 = .ok (.if_icmp .ge 112, 3) := by decide +kernel
theorem dX3_turnFace_37 : decode cX3_turnFace 37 = .ok (.iconst 0, 1) := by decide +kernel
theorem dX3_turnFace_38 : decode cX3_turnFace 38 = .ok (.istore_n 3, 1) := by decide +kernel
theorem dX3_turnFace_39 : decode cX3_turnFace 39 = .ok (.iload_n 3, 1) := by decide +kernel
theorem dX3_turnFace_40 : decode cX3_turnFace 40 = .ok (.bipush 12, 2) := by decide +kernel
theorem dX3_turnFace_42 : decode cX3_turnFace 42 = .ok (.if_icmp .ge 98, 3) := by decide +kernel
theorem dX3_turnFace_45 : decode cX3_turnFace 45 = .ok (.aload_n 0, 1) := by decide +kernel
theorem dX3_turnFace_46 : decode cX3_turnFace 46 = .ok (.getfield 9, 3) := by decide +kernel
theorem dX3_turnFace_49 : decode cX3_turnFace 49 = .ok (.iload_n 2, 1) := by decide +kernel
theorem dX3_turnFace_50 : decode cX3_turnFace 50 = .ok (.bipush 12, 2) := by decide +kernel
theorem dX3_turnFace_52 : decode cX3_turnFace 52 = .ok (.imul, 1) := by decide +kernel
theorem dX3_turnFace_53 : decode cX3_turnFace 53 = .ok (.iload_n 3, 1) := by decide +kernel
theorem dX3_turnFace_54 : decode cX3_turnFace 54 = .ok (.iadd, 1) := by decide +kernel
theorem dX3_turnFace_55 : decode cX3_turnFace 55 = .ok (.iaload, 1) := by decide +kernel
theorem dX3_turnFace_56 : decode cX3_turnFace 56 = .ok (.istore 4, 2) := by decide +kernel
theorem dX3_turnFace_58 : decode cX3_turnFace 58 = .ok (.iload_n 1, 1) := by decide +kernel
theorem dX3_turnFace_59 : decode cX3_turnFace 59 = .ok (.ifCond .ne 27, 3) := by decide +kernel
theorem dX3_turnFace_62 : decode cX3_turnFace 62 = .ok (.aload_n 0, 1) := by decide +kernel
theorem dX3_turnFace_63 : decode cX3_turnFace 63 = .ok (.getfield 34, 3) := by decide +kernel
theorem dX3_turnFace_66 : decode cX3_turnFace 66 = .ok (.getfield 143, 3) := by decide +kernel
theorem dX3_turnFace_69 : decode cX3_turnFace 69 = .ok (.iload_n 3, 1) := by decide +kernel
theorem dX3_turnFace_70 : decode cX3_turnFace 70 = .ok (.bipush 12, 2) := by decide +kernel
theorem dX3_turnFace_72 : decode cX3_turnFace 72 = .ok (.imul, 1) := by decide +kernel
theorem dX3_turnFace_73 : decode cX3_turnFace 73 = .ok (.bipush 12, 2) := by decide +kernel
theorem dX3_turnFace_75 : decode cX3_turnFace 75 = .ok (.iadd, 1) := by decide +kernel
theorem dX3_turnFace_76 : decode cX3_turnFace 76 = .ok (.iconst 1, 1) := by decide +kernel
theorem dX3_turnFace_77 : decode cX3_turnFace 77 = .ok (.isub, 1) := by decide +kernel
theorem dX3_turnFace_78 : decode cX3_turnFace 78 = .ok (.iload_n 2, 1) := by decide +kernel
theorem dX3_turnFace_79 : decode cX3_turnFace 79 = .ok (.isub, 1) := by decide +kernel
theorem dX3_turnFace_80 : decode cX3_turnFace 80 = .ok (.iload 4, 2) := by decide +kernel
theorem dX3_turnFace_82 : decode cX3_turnFace 82 = .ok (.iastore, 1) := by decide +kernel
theorem dX3_turnFace_83 : decode cX3_turnFace 83 = .ok (.goto 51, 3) := by decide +kernel
theorem dX3_turnFace_86 : decode cX3_turnFace 86 = .ok (.iload_n 1, 1) := by decide +kernel
theorem dX3_turnFace_87 : decode cX3_turnFace 87 = .ok (.iconst 1, 1) := by decide +kernel
theorem dX3_turnFace_88 : decode cX3_turnFace 88 = .ok (.if_icmp .ne 27, 3) := by decide +kernel
theorem dX3_turnFace_91 : decode cX3_turnFace 91 = .ok (.aload_n 0, 1) := by decide +kernel
theorem dX3_turnFace_92 : decode cX3_turnFace 92 = .ok (.getfield 34, 3) := by decide +kernel
theorem dX3_turnFace_95 : decode cX3_turnFace 95 = .ok (.getfield 143, 3) := by decide +kernel
theorem dX3_turnFace_98 : decode cX3_turnFace 98 = .ok (.iload_n 2, 1) := by decide +kernel
theorem dX3_turnFace_99 : decode cX3_turnFace 99 = .ok (.bipush 12, 2) := by decide +kernel
theorem dX3_turnFace_101 : decode cX3_turnFace 101 = .ok (.imul, 1) := by decide +kernel
theorem dX3_turnFace_102 : decode cX3_turnFace 102 = .ok (.bipush 12, 2) := by decide +kernel
theorem dX3_turnFace_104 : decode cX3_turnFace 104 = .ok (.iadd, 1) := by decide +kernel
theorem dX3_turnFace_105 : decode cX3_turnFace 105 = .ok (.iconst 1, 1) := by decide +kernel
theorem dX3_turnFace_106 : decode cX3_turnFace 106 = .ok (.isub, 1) := by decide +kernel
theorem dX3_turnFace_107 : decode cX3_turnFace 107 = .ok (.iload_n 3, 1) := by decide +kernel
theorem dX3_turnFace_108 : decode cX3_turnFace 108 = .ok (.isub, 1) := by decide +kernel
theorem dX3_turnFace_109 : decode cX3_turnFace 109 = .ok (.iload 4, 2) := by decide +kernel
theorem dX3_turnFace_111 : decode cX3_turnFace 111 = .ok (.iastore, 1) := by decide +kernel
theorem dX3_turnFace_112 : decode cX3_turnFace 112 = .ok (.goto 22, 3) := by decide +kernel
theorem dX3_turnFace_115 : decode cX3_turnFace 115 = .ok (.aload_n 0, 1) := by decide +kernel
theorem dX3_turnFace_116 : decode cX3_turnFace 116 = .ok (.getfield 34, 3) := by decide +kernel
theorem dX3_turnFace_119 : decode cX3_turnFace 119 = .ok (.getfield 143, 3) := by decide +kernel
theorem dX3_turnFace_122 : decode cX3_turnFace 122 = .ok (.iload_n 2, 1) := by decide +kernel
theorem dX3_turnFace_123 : decode cX3_turnFace 123 = .ok (.bipush 12, 2) := by decide +kernel
theorem dX3_turnFace_125 : decode cX3_turnFace 125 = .ok (.imul, 1) := by decide +kernel
theorem dX3_turnFace_126 : decode cX3_turnFace 126 = .ok (.iload_n 3, 1) := by decide +kernel
theorem dX3_turnFace_127 : decode cX3_turnFace 127 = .ok (.iadd, 1) := by decide +kernel
theorem dX3_turnFace_128 : decode cX3_turnFace 128 = .ok (.bipush 9, 2) := by decide +kernel
theorem dX3_turnFace_130 : decode cX3_turnFace 130 = .ok (.iload 4, 2) := by decide +kernel
theorem dX3_turnFace_132 : decode cX3_turnFace 132 = .ok (.isub, 1) := by decide +kernel
theorem dX3_turnFace_133 : decode cX3_turnFace 133 = .ok (.iastore, 1) := by decide +kernel
theorem dX3_turnFace_134 : decode cX3_turnFace 134 = .ok (.iinc 3 1, 3) := by decide +kernel
theorem dX3_turnFace_137 : decode cX3_turnFace 137 = .ok (.goto (-98), 3) := by decide +kernel
theorem dX3_turnFace_140 : decode cX3_turnFace 140 = .ok (.iinc 2 1, 3) := by decide +kernel
theorem dX3_turnFace_143 : decode cX3_turnFace 143 = .ok (.goto (-112), 3) := by decide +kernel
theorem dX3_turnFace_146 : decode cX3_turnFace 146 = .ok (.aload_n 0, 1) := by decide +kernel
theorem dX3_turnFace_147 : decode cX3_turnFace 147 = .ok (.getfield 34, 3) := by decide +kernel
theorem dX3_turnFace_150 : decode cX3_turnFace 150 = .ok (.invokevirtual 152, 3) := by decide +kernel
theorem dX3_turnFace_153 : decode cX3_turnFace 153 = .ok (.ireturn, 1) := by decide +kernel
theorem dX3_keep_0 : decode cX3_keep 0 = .ok (.iload_n 1, 1) := by decide +kernel
theorem dX3_keep_1 : decode cX3_keep 1 = .ok (.iconst 0, 1) := by decide +kernel
theorem dX3_keep_2 : decode cX3_keep 2 = .ok (.iconst 1, 1) := by decide +kernel
theorem dX3_keep_3 : decode cX3_keep 3 = .ok (.invokestatic 72, 3) := by decide +kernel
theorem dX3_keep_6 : decode cX3_keep 6 = .ok (.aload_n 0, 1) := by decide +kernel
theorem dX3_keep_7 : decode cX3_keep 7 = .ok (.aload_n 0, 1) := by decide +kernel
theorem dX3_keep_8 : decode cX3_keep 8 = .ok (.getfield 22, 3) := by decide +kernel
theorem dX3_keep_11 : decode cX3_keep 11 = .ok (.iload_n 1, 1) := by decide +kernel
theorem dX3_keep_12 : decode cX3_keep 12 = .ok (.invokevirtual 177, 3) := by decide +kernel
theorem dX3_keep_15 : decode cX3_keep 15 = .ok (.aload_n 0, 1) := by decide +kernel
theorem dX3_keep_16 : decode cX3_keep 16 = .ok (.getfield 34, 3) := by decide +kernel
theorem dX3_keep_19 : decode cX3_keep 19 = .ok (.getfield 110, 3) := by decide +kernel
theorem dX3_keep_22 : decode cX3_keep 22 = .ok (.ireturn, 1) := by decide +kernel
theorem dX3_goBack_0 : decode cX3_goBack 0 = .ok (.iload_n 1, 1) := by decide +kernel
theorem dX3_goBack_1 : decode cX3_goBack 1 = .ok (.iconst 0, 1) := by decide +kernel
theorem dX3_goBack_2 : decode cX3_goBack 2 = .ok (.iconst 1, 1) := by decide +kernel
theorem dX3_goBack_3 : decode cX3_goBack 3 = .ok (.invokestatic 72, 3) := by decide +kernel
theorem dX3_goBack_6 : decode cX3_goBack 6 = .ok (.aload_n 0, 1) := by decide +kernel
theorem dX3_goBack_7 : decode cX3_goBack 7 = .ok (.getfield 22, 3) := by decide +kernel
theorem dX3_goBack_10 : decode cX3_goBack 10 = .ok (.iload_n 1, 1) := by decide +kernel
theorem dX3_goBack_11 : decode cX3_goBack 11 = .ok (.aaload, 1) := by decide +kernel
theorem dX3_goBack_12 : decode cX3_goBack 12 = .ok (.astore_n 2, 1) := by decide +kernel
theorem dX3_goBack_13 : decode cX3_goBack 13 = .ok (.aload_n 2, 1) := by decide +kernel
theorem dX3_goBack_14 : decode cX3_goBack 14 = .ok (.ifnonnull 13, 3) := by decide +kernel
theorem dX3_goBack_17 : decode cX3_goBack 17 = .ok (.new 82, 3) := by decide +kernel
theorem dX3_goBack_20 : decode cX3_goBack 20 = .ok (.dup, 1) := by decide +kernel
theorem dX3_goBack_21 : decode cX3_goBack 21 = .ok (.ldc 181, 2) := by decide +kernel
theorem dX3_goBack_23 : decode cX3_goBack 23 = .ok (.invokespecial 86, 3) := by decide +kernel
theorem dX3_goBack_26 : decode cX3_goBack 26 = .ok (.athrow, 1) := by decide +kernel
theorem dX3_goBack_27 : decode cX3_goBack 27 = .ok (.aload_n 0, 1) := by decide +kernel
theorem dX3_goBack_28 : decode cX3_goBack 28 = .ok (.invokevirtual 52, 3) := by decide +kernel
theorem dX3_goBack_31 : decode cX3_goBack 31 = .ok (.aload_n 0, 1) := by decide +kernel
theorem dX3_goBack_32 : decode cX3_goBack 32 = .ok (.getfield 34, 3) := by decide +kernel
theorem dX3_goBack_35 : decode cX3_goBack 35 = .ok (.aload_n 2, 1) := by decide +kernel
theorem dX3_goBack_36 : decode cX3_goBack 36 = .ok (.invokevirtual 183, 3) := by decide +kernel
theorem dX3_goBack_39 : decode cX3_goBack 39 = .ok (.aload_n 0, 1) := by decide +kernel
theorem dX3_goBack_40 : decode cX3_goBack 40 = .ok (.getfield 34, 3) := by decide +kernel
theorem dX3_goBack_43 : decode cX3_goBack 43 = .ok (.getfield 110, 3) := by decide +kernel
theorem dX3_goBack_46 : decode cX3_goBack 46 = .ok (.ireturn, 1) := by decide +kernel
theorem dX3_undo_0 : decode cX3_undo 0 = .ok (.aload_n 0, 1) := by decide +kernel
theorem dX3_undo_1 : decode cX3_undo 1 = .ok (.getfield 187, 3) := by decide +kernel
theorem dX3_undo_4 : decode cX3_undo 4 = .ok (.ifCond .le 17, 3) := by decide +kernel
theorem dX3_undo_7 : decode cX3_undo 7 = .ok (.aload_n 0, 1) := by decide +kernel
theorem dX3_undo_8 : decode cX3_undo 8 = .ok (.getfield 26, 3) := by decide +kernel
theorem dX3_undo_11 : decode cX3_undo 11 = .ok (.aload_n 0, 1) := by decide +kernel
theorem dX3_undo_12 : decode cX3_undo 12 = .ok (.getfield 187, 3) := by decide +kernel
theorem dX3_undo_15 : decode cX3_undo 15 = .ok (.iconst 1, 1) := by decide +kernel
theorem dX3_undo_16 : decode cX3_undo 16 = .ok (.isub, 1) := by decide +kernel
theorem dX3_undo_17 : decode cX3_undo 17 = .ok (.aaload, 1) := by decide +kernel
theorem dX3_undo_18 : decode cX3_undo 18 = .ok (.goto 4, 3) := by decide +kernel
theorem dX3_undo_21 : decode cX3_undo 21 = .ok (.aconst_null, 1) := by decide +kernel
theorem dX3_undo_22 : decode cX3_undo 22 = .ok (.astore_n 1, 1) := by decide +kernel
theorem dX3_undo_23 : decode cX3_undo 23 = .ok (.aload_n 1, 1) := by decide +kernel
theorem dX3_undo_24 : decode cX3_undo 24 = .ok (.ifnonnull 13, 3) := by decide +kernel
theorem dX3_undo_27 : decode cX3_undo 27 = .ok (.new 82, 3) := by decide +kernel
theorem dX3_undo_30 : decode cX3_undo 30 = .ok (.dup, 1) := by decide +kernel
theorem dX3_undo_31 : decode cX3_undo 31 = .ok (.ldc 190, 2) := by decide +kernel
theorem dX3_undo_33 : decode cX3_undo 33 = .ok (.invokespecial 86, 3) := by decide +kernel
theorem dX3_undo_36 : decode cX3_undo 36 = .ok (.athrow, 1) := by decide +kernel
theorem dX3_undo_37 : decode cX3_undo 37 = .ok (.aload_n 0, 1) := by decide +kernel
theorem dX3_undo_38 : decode cX3_undo 38 = .ok (.getfield 34, 3) := by decide +kernel
theorem dX3_undo_41 : decode cX3_undo 41 = .ok (.aload_n 1, 1) := by decide +kernel
theorem dX3_undo_42 : decode cX3_undo 42 = .ok (.invokevirtual 183, 3) := by decide +kernel
theorem dX3_undo_45 : decode cX3_undo 45 = .ok (.aload_n 0, 1) := by decide +kernel
theorem dX3_undo_46 : decode cX3_undo 46 = .ok (.dup, 1) := by decide +kernel
theorem dX3_undo_47 : decode cX3_undo 47 = .ok (.getfield 187, 3) := by decide +kernel
theorem dX3_undo_50 : decode cX3_undo 50 = .ok (.iconst 1, 1) := by decide +kernel
theorem dX3_undo_51 : decode cX3_undo 51 = .ok (.isub, 1) := by decide +kernel
theorem dX3_undo_52 : decode cX3_undo 52 = .ok (.putfield 187, 3) := by decide +kernel
theorem dX3_undo_55 : decode cX3_undo 55 = .ok (.aload_n 0, 1) := by decide +kernel
theorem dX3_undo_56 : decode cX3_undo 56 = .ok (.getfield 187, 3) := by decide +kernel
theorem dX3_undo_59 : decode cX3_undo 59 = .ok (.ireturn, 1) := by decide +kernel
theorem dX3_nailOf_0 : decode cX3_nailOf 0 = .ok (.aload_n 0, 1) := by decide +kernel
theorem dX3_nailOf_1 : decode cX3_nailOf 1 = .ok (.iload_n 1, 1) := by decide +kernel
theorem dX3_nailOf_2 : decode cX3_nailOf 2 = .ok (.invokevirtual 107, 3) := by decide +kernel
theorem dX3_nailOf_5 : decode cX3_nailOf 5 = .ok (.iload_n 2, 1) := by decide +kernel
theorem dX3_nailOf_6 : decode cX3_nailOf 6 = .ok (.iconst 0, 1) := by decide +kernel
theorem dX3_nailOf_7 : decode cX3_nailOf 7 = .ok (.iconst 3, 1) := by decide +kernel
theorem dX3_nailOf_8 : decode cX3_nailOf 8 = .ok (.invokestatic 72, 3) := by decide +kernel
theorem dX3_nailOf_11 : decode cX3_nailOf 11 = .ok (.iload_n 2, 1) := by decide +kernel
theorem dX3_nailOf_12 : decode cX3_nailOf 12 = .ok (.tableswitch 63 0 2 #[28, 41, 54], 28) := by decide +kernel
theorem dX3_nailOf_40 : decode cX3_nailOf 40 = .ok (.iload_n 1, 1) := by decide +kernel
theorem dX3_nailOf_41 : decode cX3_nailOf 41 = .ok (.aload_n 0, 1) := by decide +kernel
theorem dX3_nailOf_42 : decode cX3_nailOf 42 = .ok (.getfield 34, 3) := by decide +kernel
theorem dX3_nailOf_45 : decode cX3_nailOf 45 = .ok (.getfield 62, 3) := by decide +kernel
theorem dX3_nailOf_48 : decode cX3_nailOf 48 = .ok (.imul, 1) := by decide +kernel
theorem dX3_nailOf_49 : decode cX3_nailOf 49 = .ok (.invokestatic 192, 3) := by decide +kernel
theorem dX3_nailOf_52 : decode cX3_nailOf 52 = .ok (.ireturn, 1) := by decide +kernel
theorem dX3_nailOf_53 : decode cX3_nailOf 53 = .ok (.iload_n 1, 1) := by decide +kernel
theorem dX3_nailOf_54 : decode cX3_nailOf 54 = .ok (.aload_n 0, 1) := by decide +kernel
theorem dX3_nailOf_55 : decode cX3_nailOf 55 = .ok (.getfield 34, 3) := by decide +kernel
theorem dX3_nailOf_58 : decode cX3_nailOf 58 = .ok (.getfield 62, 3) := by decide +kernel
theorem dX3_nailOf_61 : decode cX3_nailOf 61 = .ok (.imul, 1) := by decide +kernel
theorem dX3_nailOf_62 : decode cX3_nailOf 62 = .ok (.invokestatic 195, 3) := by decide +kernel
theorem dX3_nailOf_65 : decode cX3_nailOf 65 = .ok (.ireturn, 1) := by decide +kernel
theorem dX3_nailOf_66 : decode cX3_nailOf 66 = .ok (.aload_n 0, 1) := by decide +kernel
theorem dX3_nailOf_67 : decode cX3_nailOf 67 = .ok (.getfield 34, 3) := by decide +kernel
theorem dX3_nailOf_70 : decode cX3_nailOf 70 = .ok (.iload_n 1, 1) := by decide +kernel
theorem dX3_nailOf_71 : decode cX3_nailOf 71 = .ok (.invokevirtual 198, 3) := by decide +kernel
theorem dX3_nailOf_74 : decode cX3_nailOf 74 = .ok (.ireturn, 1) := by decide +kernel
theorem dX3_nailOf_75 : decode cX3_nailOf 75 = .ok (.iload_n 1, 1) := by decide +kernel
theorem dX3_nailOf_76 : decode cX3_nailOf 76 = .ok (.aload_n 0, 1) := by decide +kernel
theorem dX3_nailOf_77 : decode cX3_nailOf 77 = .ok (.getfield 34, 3) := by decide +kernel
theorem dX3_nailOf_80 : decode cX3_nailOf 80 = .ok (.getfield 65, 3) := by decide +kernel
theorem dX3_nailOf_83 : decode cX3_nailOf 83 = .ok (.if_icmp .ne 7, 3) := by decide +kernel
theorem dX3_nailOf_86 : decode cX3_nailOf 86 = .ok (.iconst 1, 1) := by decide +kernel
theorem dX3_nailOf_87 : decode cX3_nailOf 87 = .ok (.goto 4, 3) := by decide +kernel
theorem dX3_nailOf_90 : decode cX3_nailOf 90 = .ok (.iconst 0, 1) := by decide +kernel
theorem dX3_nailOf_91 : decode cX3_nailOf 91 = .ok (.ireturn, 1) := by decide +kernel
theorem dX3_spoolOf_0 : decode cX3_spoolOf 0 = .ok (.iload_n 1, 1) := by decide +kernel
theorem dX3_spoolOf_1 : decode cX3_spoolOf 1 = .ok (.invokestatic 68, 3) := by decide +kernel
theorem dX3_spoolOf_4 : decode cX3_spoolOf 4 = .ok (.iload_n 2, 1) := by decide +kernel
theorem dX3_spoolOf_5 : decode cX3_spoolOf 5 = .ok (.iconst 0, 1) := by decide +kernel
theorem dX3_spoolOf_6 : decode cX3_spoolOf 6 = .ok (.iconst 4, 1) := by decide +kernel
theorem dX3_spoolOf_7 : decode cX3_spoolOf 7 = .ok (.invokestatic 72, 3) := by decide +kernel
theorem dX3_spoolOf_10 : decode cX3_spoolOf 10 = .ok (.iload_n 2, 1) := by decide +kernel
theorem dX3_spoolOf_11 : decode cX3_spoolOf 11 = .ok (.tableswitch 67 0 3 #[29, 39, 49, 58], 29) := by decide +kernel
theorem dX3_spoolOf_40 : decode cX3_spoolOf 40 = .ok (.aload_n 0, 1) := by decide +kernel
theorem dX3_spoolOf_41 : decode cX3_spoolOf 41 = .ok (.getfield 34, 3) := by decide +kernel
theorem dX3_spoolOf_44 : decode cX3_spoolOf 44 = .ok (.getfield 90, 3) := by decide +kernel
theorem dX3_spoolOf_47 : decode cX3_spoolOf 47 = .ok (.iload_n 1, 1) := by decide +kernel
theorem dX3_spoolOf_48 : decode cX3_spoolOf 48 = .ok (.iaload, 1) := by decide +kernel
theorem dX3_spoolOf_49 : decode cX3_spoolOf 49 = .ok (.ireturn, 1) := by decide +kernel
theorem dX3_spoolOf_50 : decode cX3_spoolOf 50 = .ok (.aload_n 0, 1) := by decide +kernel
theorem dX3_spoolOf_51 : decode cX3_spoolOf 51 = .ok (.getfield 34, 3) := by decide +kernel
theorem dX3_spoolOf_54 : decode cX3_spoolOf 54 = .ok (.getfield 87, 3) := by decide +kernel
theorem dX3_spoolOf_57 : decode cX3_spoolOf 57 = .ok (.iload_n 1, 1) := by decide +kernel
theorem dX3_spoolOf_58 : decode cX3_spoolOf 58 = .ok (.iaload, 1) := by decide +kernel
theorem dX3_spoolOf_59 : decode cX3_spoolOf 59 = .ok (.ireturn, 1) := by decide +kernel
theorem dX3_spoolOf_60 : decode cX3_spoolOf 60 = .ok (.aload_n 0, 1) := by decide +kernel
theorem dX3_spoolOf_61 : decode cX3_spoolOf 61 = .ok (.getfield 34, 3) := by decide +kernel
theorem dX3_spoolOf_64 : decode cX3_spoolOf 64 = .ok (.iload_n 1, 1) := by decide +kernel
theorem dX3_spoolOf_65 : decode cX3_spoolOf 65 = .ok (.invokevirtual 201, 3) := by decide +kernel
theorem dX3_spoolOf_68 : decode cX3_spoolOf 68 = .ok (.ireturn, 1) := by decide +kernel
theorem dX3_spoolOf_69 : decode cX3_spoolOf 69 = .ok (.aload_n 0, 1) := by decide +kernel
theorem dX3_spoolOf_70 : decode cX3_spoolOf 70 = .ok (.getfield 34, 3) := by decide +kernel
theorem dX3_spoolOf_73 : decode cX3_spoolOf 73 = .ok (.iload_n 1, 1) := by decide +kernel
theorem dX3_spoolOf_74 : decode cX3_spoolOf 74 = .ok (.invokevirtual 79, 3) := by decide +kernel
theorem dX3_spoolOf_77 : decode cX3_spoolOf 77 = .ok (.ireturn, 1) := by decide +kernel
theorem dX3_spoolOf_78 : decode cX3_spoolOf 78 = .ok (.iload_n 1, 1) := by decide +kernel
theorem dX3_spoolOf_79 : decode cX3_spoolOf 79 = .ok (.aload_n 0, 1) := by decide +kernel
theorem dX3_spoolOf_80 : decode cX3_spoolOf 80 = .ok (.getfield 34, 3) := by decide +kernel
theorem dX3_spoolOf_83 : decode cX3_spoolOf 83 = .ok (.getfield 76, 3) := by decide +kernel
theorem dX3_spoolOf_86 : decode cX3_spoolOf 86 = .ok (.if_icmp .ne 7, 3) := by decide +kernel
theorem dX3_spoolOf_89 : decode cX3_spoolOf 89 = .ok (.iconst 1, 1) := by decide +kernel
theorem dX3_spoolOf_90 : decode cX3_spoolOf 90 = .ok (.goto 4, 3) := by decide +kernel
theorem dX3_spoolOf_93 : decode cX3_spoolOf 93 = .ok (.iconst 0, 1) := by decide +kernel
theorem dX3_spoolOf_94 : decode cX3_spoolOf 94 = .ok (.ireturn, 1) := by decide +kernel
theorem dX3_wound_0 : decode cX3_wound 0 = .ok (.iload_n 1, 1) := by decide +kernel
theorem dX3_wound_1 : decode cX3_wound 1 = .ok (.ifCond .ge 13, 3) := by decide +kernel
theorem dX3_wound_4 : decode cX3_wound 4 = .ok (.new 45, 3) := by decide +kernel
theorem dX3_wound_7 : decode cX3_wound 7 = .ok (.dup, 1) := by decide +kernel
theorem dX3_wound_8 : decode cX3_wound 8 = .ok (.ldc 216, 2) := by decide +kernel
theorem dX3_wound_10 : decode cX3_wound 10 = .ok (.invokespecial 49, 3) := by decide +kernel
theorem dX3_wound_13 : decode cX3_wound 13 = .ok (.athrow, 1) := by decide +kernel
theorem dX3_wound_14 : decode cX3_wound 14 = .ok (.iload_n 2, 1) := by decide +kernel
theorem dX3_wound_15 : decode cX3_wound 15 = .ok (.iconst 0, 1) := by decide +kernel
theorem dX3_wound_16 : decode cX3_wound 16 = .ok (.iconst 2, 1) := by decide +kernel
theorem dX3_wound_17 : decode cX3_wound 17 = .ok (.invokestatic 72, 3) := by decide +kernel
theorem dX3_wound_20 : decode cX3_wound 20 = .ok (.iload_n 1, 1) := by decide +kernel
theorem dX3_wound_21 : decode cX3_wound 21 = .ok (.aload_n 0, 1) := by decide +kernel
theorem dX3_wound_22 : decode cX3_wound 22 = .ok (.getfield 34, 3) := by decide +kernel
theorem dX3_wound_25 : decode cX3_wound 25 = .ok (.getfield 110, 3) := by decide +kernel
theorem dX3_wound_28 : decode cX3_wound 28 = .ok (.if_icmp .lt 5, 3) := by decide +kernel
theorem dX3_wound_31 : decode cX3_wound 31 = .ok (.iconst (-1), 1) := by decide +kernel
theorem dX3_wound_32 : decode cX3_wound 32 = .ok (.ireturn, 1) := by decide +kernel
theorem dX3_wound_33 : decode cX3_wound 33 = .ok (.aload_n 0, 1) := by decide +kernel
theorem dX3_wound_34 : decode cX3_wound 34 = .ok (.getfield 34, 3) := by decide +kernel
theorem dX3_wound_37 : decode cX3_wound 37 = .ok (.getfield 110, 3) := by decide +kernel
theorem dX3_wound_40 : decode cX3_wound 40 = .ok (.iconst 1, 1) := by decide +kernel
theorem dX3_wound_41 : decode cX3_wound 41 = .ok (.isub, 1) := by decide +kernel
theorem dX3_wound_42 : decode cX3_wound 42 = .ok (.iload_n 1, 1) := by decide +kernel
theorem dX3_wound_43 : decode cX3_wound 43 = .ok (.isub, 1) := by decide +kernel
theorem dX3_wound_44 : decode cX3_wound 44 = .ok (.istore_n 3, 1) := by decide +kernel
theorem dX3_wound_45 : decode cX3_wound 45 = .ok (.iload_n 2, 1) := by decide +kernel
theorem dX3_wound_46 : decode cX3_wound 46 = .ok (.lookupswitch 46 #[(0, 26), (1, 36)], 26) := by decide +kernel
theorem dX3_wound_72 : decode cX3_wound 72 = .ok (.aload_n 0, 1) := by decide +kernel
theorem dX3_wound_73 : decode cX3_wound 73 = .ok (.getfield 34, 3) := by decide +kernel
theorem dX3_wound_76 : decode cX3_wound 76 = .ok (.getfield 218, 3) := by decide +kernel
theorem dX3_wound_79 : decode cX3_wound 79 = .ok (.iload_n 3, 1) := by decide +kernel
theorem dX3_wound_80 : decode cX3_wound 80 = .ok (.iaload, 1) := by decide +kernel
theorem dX3_wound_81 : decode cX3_wound 81 = .ok (.ireturn, 1) := by decide +kernel
theorem dX3_wound_82 : decode cX3_wound 82 = .ok (.aload_n 0, 1) := by decide +kernel
theorem dX3_wound_83 : decode cX3_wound 83 = .ok (.getfield 34, 3) := by decide +kernel
theorem dX3_wound_86 : decode cX3_wound 86 = .ok (.getfield 221, 3) := by decide +kernel
theorem dX3_wound_89 : decode cX3_wound 89 = .ok (.iload_n 3, 1) := by decide +kernel
theorem dX3_wound_90 : decode cX3_wound 90 = .ok (.iaload, 1) := by decide +kernel
theorem dX3_wound_91 : decode cX3_wound 91 = .ok (.ireturn, 1) := by decide +kernel
theorem dX3_wound_92 : decode cX3_wound 92 = .ok (.aload_n 0, 1) := by decide +kernel
theorem dX3_wound_93 : decode cX3_wound 93 = .ok (.getfield 34, 3) := by decide +kernel
theorem dX3_wound_96 : decode cX3_wound 96 = .ok (.getfield 224, 3) := by decide +kernel
theorem dX3_wound_99 : decode cX3_wound 99 = .ok (.iload_n 3, 1) := by decide +kernel
theorem dX3_wound_100 : decode cX3_wound 100 = .ok (.iaload, 1) := by decide +kernel
theorem dX3_wound_101 : decode cX3_wound 101 = .ok (.ireturn, 1) := by decide +kernel
theorem dX3_square_0 : decode cX3_square 0 = .ok (.iload_n 1, 1) := by decide +kernel
theorem dX3_square_1 : decode cX3_square 1 = .ok (.iload_n 2, 1) := by decide +kernel
theorem dX3_square_2 : decode cX3_square 2 = .ok (.invokestatic 139, 3) := by decide +kernel
theorem dX3_square_5 : decode cX3_square 5 = .ok (.iload_n 3, 1) := by decide +kernel
theorem dX3_square_6 : decode cX3_square 6 = .ok (.iconst 0, 1) := by decide +kernel
theorem dX3_square_7 : decode cX3_square 7 = .ok (.iconst 3, 1) := by decide +kernel
theorem dX3_square_8 : decode cX3_square 8 = .ok (.invokestatic 72, 3) := by decide +kernel
theorem dX3_square_11 : decode cX3_square 11 = .ok (.iload_n 2, 1) := by decide +kernel
theorem dX3_square_12 : decode cX3_square 12 = .ok (.bipush 12, 2) := by decide +kernel
theorem dX3_square_14 : decode cX3_square 14 = .ok (.imul, 1) := by decide +kernel
theorem dX3_square_15 : decode cX3_square 15 = .ok (.iload_n 1, 1) := by decide +kernel
theorem dX3_square_16 : decode cX3_square 16 = .ok (.iadd, 1) := by decide +kernel
theorem dX3_square_17 : decode cX3_square 17 = .ok (.istore 4, 2) := by decide +kernel
theorem dX3_square_19 : decode cX3_square 19 = .ok (.iload_n 3, 1) := by decide +kernel
theorem dX3_square_20 : decode cX3_square 20 = .ok (.tableswitch 64 0 2 #[28, 39, 50], 28) := by decide +kernel
theorem dX3_square_48 : decode cX3_square 48 = .ok (.aload_n 0, 1) := by decide +kernel
theorem dX3_square_49 : decode cX3_square 49 = .ok (.getfield 34, 3) := by decide +kernel
theorem dX3_square_52 : decode cX3_square 52 = .ok (.getfield 143, 3) := by decide +kernel
theorem dX3_square_55 : decode cX3_square 55 = .ok (.iload 4, 2) := by decide +kernel
theorem dX3_square_57 : decode cX3_square 57 = .ok (.iaload, 1) := by decide +kernel
theorem dX3_square_58 : decode cX3_square 58 = .ok (.ireturn, 1) := by decide +kernel
theorem dX3_square_59 : decode cX3_square 59 = .ok (.aload_n 0, 1) := by decide +kernel
theorem dX3_square_60 : decode cX3_square 60 = .ok (.getfield 34, 3) := by decide +kernel
theorem dX3_square_63 : decode cX3_square 63 = .ok (.getfield 227, 3) := by decide +kernel
theorem dX3_square_66 : decode cX3_square 66 = .ok (.iload 4, 2) := by decide +kernel
theorem dX3_square_68 : decode cX3_square 68 = .ok (.iaload, 1) := by decide +kernel
theorem dX3_square_69 : decode cX3_square 69 = .ok (.ireturn, 1) := by decide +kernel
theorem dX3_square_70 : decode cX3_square 70 = .ok (.aload_n 0, 1) := by decide +kernel
theorem dX3_square_71 : decode cX3_square 71 = .ok (.getfield 34, 3) := by decide +kernel
theorem dX3_square_74 : decode cX3_square 74 = .ok (.iload 4, 2) := by decide +kernel
theorem dX3_square_76 : decode cX3_square 76 = .ok (.invokevirtual 230, 3) := by decide +kernel
theorem dX3_square_79 : decode cX3_square 79 = .ok (.sipush 10000, 3) := by decide +kernel
theorem dX3_square_82 : decode cX3_square 82 = .ok (.iadd, 1) := by decide +kernel
theorem dX3_square_83 : decode cX3_square 83 = .ok (.ireturn, 1) := by decide +kernel
theorem dX3_square_84 : decode cX3_square 84 = .ok (.aload_n 0, 1) := by decide +kernel
theorem dX3_square_85 : decode cX3_square 85 = .ok (.getfield 34, 3) := by decide +kernel
theorem dX3_square_88 : decode cX3_square 88 = .ok (.getfield 233, 3) := by decide +kernel
theorem dX3_square_91 : decode cX3_square 91 = .ok (.iload 4, 2) := by decide +kernel
theorem dX3_square_93 : decode cX3_square 93 = .ok (.iaload, 1) := by decide +kernel
theorem dX3_square_94 : decode cX3_square 94 = .ok (.ireturn, 1) := by decide +kernel
theorem dX3_count_0 : decode cX3_count 0 = .ok (.iload_n 1, 1) := by decide +kernel
theorem dX3_count_1 : decode cX3_count 1 = .ok (.iconst 0, 1) := by decide +kernel
theorem dX3_count_2 : decode cX3_count 2 = .ok (.bipush 12, 2) := by decide +kernel
theorem dX3_count_4 : decode cX3_count 4 = .ok (.invokestatic 72, 3) := by decide +kernel
theorem dX3_count_7 : decode cX3_count 7 = .ok (.iload_n 1, 1) := by decide +kernel
theorem dX3_count_8 : decode cX3_count 8 = .ok (.tableswitch 185 0 11 #[64, 72, 80, 88, 96, 104, 112, 120, 128, 140, 149, 158], 64) := by decide +kernel
theorem dX3_count_72 : decode cX3_count 72 = .ok (.aload_n 0, 1) := by decide +kernel
theorem dX3_count_73 : decode cX3_count 73 = .ok (.getfield 34, 3) := by decide +kernel
theorem dX3_count_76 : decode cX3_count 76 = .ok (.getfield 55, 3) := by decide +kernel
theorem dX3_count_79 : decode cX3_count 79 = .ok (.ireturn, 1) := by decide +kernel
theorem dX3_count_80 : decode cX3_count 80 = .ok (.aload_n 0, 1) := by decide +kernel
theorem dX3_count_81 : decode cX3_count 81 = .ok (.getfield 34, 3) := by decide +kernel
theorem dX3_count_84 : decode cX3_count 84 = .ok (.getfield 65, 3) := by decide +kernel
theorem dX3_count_87 : decode cX3_count 87 = .ok (.ireturn, 1) := by decide +kernel
theorem dX3_count_88 : decode cX3_count 88 = .ok (.aload_n 0, 1) := by decide +kernel
theorem dX3_count_89 : decode cX3_count 89 = .ok (.getfield 34, 3) := by decide +kernel
theorem dX3_count_92 : decode cX3_count 92 = .ok (.getfield 76, 3) := by decide +kernel
theorem dX3_count_95 : decode cX3_count 95 = .ok (.ireturn, 1) := by decide +kernel
theorem dX3_count_96 : decode cX3_count 96 = .ok (.aload_n 0, 1) := by decide +kernel
theorem dX3_count_97 : decode cX3_count 97 = .ok (.getfield 34, 3) := by decide +kernel
theorem dX3_count_100 : decode cX3_count 100 = .ok (.getfield 110, 3) := by decide +kernel
theorem dX3_count_103 : decode cX3_count 103 = .ok (.ireturn, 1) := by decide +kernel
theorem dX3_count_104 : decode cX3_count 104 = .ok (.aload_n 0, 1) := by decide +kernel
theorem dX3_count_105 : decode cX3_count 105 = .ok (.getfield 34, 3) := by decide +kernel
theorem dX3_count_108 : decode cX3_count 108 = .ok (.getfield 121, 3) := by decide +kernel
theorem dX3_count_111 : decode cX3_count 111 = .ok (.ireturn, 1) := by decide +kernel
theorem dX3_count_112 : decode cX3_count 112 = .ok (.aload_n 0, 1) := by decide +kernel
theorem dX3_count_113 : decode cX3_count 113 = .ok (.getfield 34, 3) := by decide +kernel
theorem dX3_count_116 : decode cX3_count 116 = .ok (.getfield 124, 3) := by decide +kernel
theorem dX3_count_119 : decode cX3_count 119 = .ok (.ireturn, 1) := by decide +kernel
theorem dX3_count_120 : decode cX3_count 120 = .ok (.aload_n 0, 1) := by decide +kernel
theorem dX3_count_121 : decode cX3_count 121 = .ok (.getfield 34, 3) := by decide +kernel
theorem dX3_count_124 : decode cX3_count 124 = .ok (.getfield 95, 3) := by decide +kernel
theorem dX3_count_127 : decode cX3_count 127 = .ok (.ireturn, 1) := by decide +kernel
theorem dX3_count_128 : decode cX3_count 128 = .ok (.aload_n 0, 1) := by decide +kernel
theorem dX3_count_129 : decode cX3_count 129 = .ok (.getfield 34, 3) := by decide +kernel
theorem dX3_count_132 : decode cX3_count 132 = .ok (.invokevirtual 152, 3) := by decide +kernel
theorem dX3_count_135 : decode cX3_count 135 = .ok (.ireturn, 1) := by decide +kernel
theorem dX3_count_136 : decode cX3_count 136 = .ok (.aload_n 0, 1) := by decide +kernel
theorem dX3_count_137 : decode cX3_count 137 = .ok (.getfield 34, 3) := by decide +kernel
theorem dX3_count_140 : decode cX3_count 140 = .ok (.aload_n 0, 1) := by decide +kernel
theorem dX3_count_141 : decode cX3_count 141 = .ok (.getfield 9, 3) := by decide +kernel
theorem dX3_count_144 : decode cX3_count 144 = .ok (.invokevirtual 236, 3) := by decide +kernel
theorem dX3_count_147 : decode cX3_count 147 = .ok (.ireturn, 1) := by decide +kernel
theorem dX3_count_148 : decode cX3_count 148 = .ok (.aload_n 0, 1) := by decide +kernel
theorem dX3_count_149 : decode cX3_count 149 = .ok (.getfield 34, 3) := by decide +kernel
theorem dX3_count_152 : decode cX3_count 152 = .ok (.iconst 1, 1) := by decide +kernel
theorem dX3_count_153 : decode cX3_count 153 = .ok (.invokevirtual 240, 3) := by decide +kernel
theorem dX3_count_156 : decode cX3_count 156 = .ok (.ireturn, 1) := by decide +kernel
theorem dX3_count_157 : decode cX3_count 157 = .ok (.aload_n 0, 1) := by decide +kernel
theorem dX3_count_158 : decode cX3_count 158 = .ok (.getfield 34, 3) := by decide +kernel
theorem dX3_count_161 : decode cX3_count 161 = .ok (.iconst (-1), 1) := by decide +kernel
theorem dX3_count_162 : decode cX3_count 162 = .ok (.invokevirtual 240, 3) := by decide +kernel
theorem dX3_count_165 : decode cX3_count 165 = .ok (.ireturn, 1) := by decide +kernel
theorem dX3_count_166 : decode cX3_count 166 = .ok (.aload_n 0, 1) := by decide +kernel
theorem dX3_count_167 : decode cX3_count 167 = .ok (.getfield 34, 3) := by decide +kernel
theorem dX3_count_170 : decode cX3_count 170 = .ok (.iconst 0, 1) := by decide +kernel
theorem dX3_count_171 : decode cX3_count 171 = .ok (.invokevirtual 201, 3) := by decide +kernel
theorem dX3_count_174 : decode cX3_count 174 = .ok (.aload_n 0, 1) := by decide +kernel
theorem dX3_count_175 : decode cX3_count 175 = .ok (.getfield 34, 3) := by decide +kernel
theorem dX3_count_178 : decode cX3_count 178 = .ok (.iconst 1, 1) := by decide +kernel
theorem dX3_count_179 : decode cX3_count 179 = .ok (.invokevirtual 201, 3) := by decide +kernel
theorem dX3_count_182 : decode cX3_count 182 = .ok (.iadd, 1) := by decide +kernel
theorem dX3_count_183 : decode cX3_count 183 = .ok (.aload_n 0, 1) := by decide +kernel
theorem dX3_count_184 : decode cX3_count 184 = .ok (.getfield 34, 3) := by decide +kernel
theorem dX3_count_187 : decode cX3_count 187 = .ok (.iconst 2, 1) := by decide +kernel
theorem dX3_count_188 : decode cX3_count 188 = .ok (.invokevirtual 201, 3) := by decide +kernel
theorem dX3_count_191 : decode cX3_count 191 = .ok (.iadd, 1) := by decide +kernel
theorem dX3_count_192 : decode cX3_count 192 = .ok (.ireturn, 1) := by decide +kernel
theorem dX3_count_193 : decode cX3_count 193 = .ok (.aload_n 0, 1) := by decide +kernel
theorem dX3_count_194 : decode cX3_count 194 = .ok (.getfield 187, 3) := by decide +kernel
theorem dX3_count_197 : decode cX3_count 197 = .ok (.ireturn, 1) := by decide +kernel
theorem dX3_setting_0 : decode cX3_setting 0 = .ok (.iload_n 1, 1) := by decide +kernel
theorem dX3_setting_1 : decode cX3_setting 1 = .ok (.invokestatic 98, 3) := by decide +kernel
theorem dX3_setting_4 : decode cX3_setting 4 = .ok (.aload_n 0, 1) := by decide +kernel
theorem dX3_setting_5 : decode cX3_setting 5 = .ok (.getfield 34, 3) := by decide +kernel
theorem dX3_setting_8 : decode cX3_setting 8 = .ok (.getfield 104, 3) := by decide +kernel
theorem dX3_setting_11 : decode cX3_setting 11 = .ok (.iload_n 1, 1) := by decide +kernel
theorem dX3_setting_12 : decode cX3_setting 12 = .ok (.iaload, 1) := by decide +kernel
theorem dX3_setting_13 : decode cX3_setting 13 = .ok (.ireturn, 1) := by decide +kernel
theorem dX3_whyNot_0 : decode cX3_whyNot 0 = .ok (.aload_n 0, 1) := by decide +kernel
theorem dX3_whyNot_1 : decode cX3_whyNot 1 = .ok (.iload_n 1, 1) := by decide +kernel
theorem dX3_whyNot_2 : decode cX3_whyNot 2 = .ok (.invokevirtual 107, 3) := by decide +kernel
theorem dX3_whyNot_5 : decode cX3_whyNot 5 = .ok (.aload_n 0, 1) := by decide +kernel
theorem dX3_whyNot_6 : decode cX3_whyNot 6 = .ok (.getfield 34, 3) := by decide +kernel
theorem dX3_whyNot_9 : decode cX3_whyNot 9 = .ok (.iload_n 1, 1) := by decide +kernel
theorem dX3_whyNot_10 : decode cX3_whyNot 10 = .ok (.invokevirtual 115, 3) := by decide +kernel
theorem dX3_whyNot_13 : decode cX3_whyNot 13 = .ok (.ireturn, 1) := by decide +kernel
theorem dX3_gain_0 : decode cX3_gain 0 = .ok (.aload_n 0, 1) := by decide +kernel
theorem dX3_gain_1 : decode cX3_gain 1 = .ok (.iload_n 1, 1) := by decide +kernel
theorem dX3_gain_2 : decode cX3_gain 2 = .ok (.invokevirtual 107, 3) := by decide +kernel
theorem dX3_gain_5 : decode cX3_gain 5 = .ok (.iload_n 1, 1) := by decide +kernel
theorem dX3_gain_6 : decode cX3_gain 6 = .ok (.aload_n 0, 1) := by decide +kernel
theorem dX3_gain_7 : decode cX3_gain 7 = .ok (.getfield 34, 3) := by decide +kernel
theorem dX3_gain_10 : decode cX3_gain 10 = .ok (.getfield 65, 3) := by decide +kernel
theorem dX3_gain_13 : decode cX3_gain 13 = .ok (.if_icmp .ne 7, 3) := by decide +kernel
theorem dX3_gain_16 : decode cX3_gain 16 = .ok (.iconst (-1), 1) := by decide +kernel
theorem dX3_gain_17 : decode cX3_gain 17 = .ok (.goto 15, 3) := by decide +kernel
theorem dX3_gain_20 : decode cX3_gain 20 = .ok (.aload_n 0, 1) := by decide +kernel
theorem dX3_gain_21 : decode cX3_gain 21 = .ok (.getfield 34, 3) := by decide +kernel
theorem dX3_gain_24 : decode cX3_gain 24 = .ok (.iload_n 1, 1) := by decide +kernel
theorem dX3_gain_25 : decode cX3_gain 25 = .ok (.invokevirtual 136, 3) := by decide +kernel
theorem dX3_gain_28 : decode cX3_gain 28 = .ok (.sipush 10000, 3) := by decide +kernel
theorem dX3_gain_31 : decode cX3_gain 31 = .ok (.iadd, 1) := by decide +kernel
theorem dX3_gain_32 : decode cX3_gain 32 = .ok (.ireturn, 1) := by decide +kernel
theorem dX3_best_0 : decode cX3_best 0 = .ok (.aload_n 0, 1) := by decide +kernel
theorem dX3_best_1 : decode cX3_best 1 = .ok (.getfield 34, 3) := by decide +kernel
theorem dX3_best_4 : decode cX3_best 4 = .ok (.invokevirtual 132, 3) := by decide +kernel
theorem dX3_best_7 : decode cX3_best 7 = .ok (.ireturn, 1) := by decide +kernel
theorem dX3_palest_0 : decode cX3_palest 0 = .ok (.iconst (-1), 1) := by decide +kernel
theorem dX3_palest_1 : decode cX3_palest 1 = .ok (.istore_n 1, 1) := by decide +kernel
theorem dX3_palest_2 : decode cX3_palest 2 = .ok (.iconst 0, 1) := by decide +kernel
theorem dX3_palest_3 : decode cX3_palest 3 = .ok (.istore_n 2, 1) := by decide +kernel
theorem dX3_palest_4 : decode cX3_palest 4 = .ok (.iconst 0, 1) := by decide +kernel
theorem dX3_palest_5 : decode cX3_palest 5 = .ok (.istore_n 3, 1) := by decide +kernel
theorem dX3_palest_6 : decode cX3_palest 6 = .ok (.iload_n 3, 1) := by decide +kernel
theorem dX3_palest_7 : decode cX3_palest 7 = .ok (.sipush 144, 3) := by decide +kernel
theorem dX3_palest_10 : decode cX3_palest 10 = .ok (.if_icmp .ge 41, 3) := by decide +kernel
theorem dX3_palest_13 : decode cX3_palest 13 = .ok (.aload_n 0, 1) := by decide +kernel
theorem dX3_palest_14 : decode cX3_palest 14 = .ok (.getfield 34, 3) := by decide +kernel
theorem dX3_palest_17 : decode cX3_palest 17 = .ok (.iload_n 3, 1) := by decide +kernel
theorem dX3_palest_18 : decode cX3_palest 18 = .ok (.invokevirtual 230, 3) := by decide +kernel
theorem dX3_palest_21 : decode cX3_palest 21 = .ok (.istore 4, 2) := by decide +kernel
theorem dX3_palest_23 : decode cX3_palest 23 = .ok (.iload 4, 2) := by decide +kernel
theorem dX3_palest_25 : decode cX3_palest 25 = .ok (.iload_n 2, 1) := by decide +kernel
theorem dX3_palest_26 : decode cX3_palest 26 = .ok (.if_icmp .le 19, 3) := by decide +kernel
theorem dX3_palest_29 : decode cX3_palest 29 = .ok (.iload 4, 2) := by decide +kernel
theorem dX3_palest_31 : decode cX3_palest 31 = .ok (.istore_n 2, 1) := by decide +kernel
theorem dX3_palest_32 : decode cX3_palest 32 = .ok (.bipush 100, 2) := by decide +kernel
theorem dX3_palest_34 : decode cX3_palest 34 = .ok (.iload_n 3, 1) := by decide +kernel
theorem dX3_palest_35 : decode cX3_palest 35 = .ok (.bipush 12, 2) := by decide +kernel
theorem dX3_palest_37 : decode cX3_palest 37 = .ok (.idiv, 1) := by decide +kernel
theorem dX3_palest_38 : decode cX3_palest 38 = .ok (.imul, 1) := by decide +kernel
theorem dX3_palest_39 : decode cX3_palest 39 = .ok (.iload_n 3, 1) := by decide +kernel
theorem dX3_palest_40 : decode cX3_palest 40 = .ok (.bipush 12, 2) := by decide +kernel
theorem dX3_palest_42 : decode cX3_palest 42 = .ok (.irem, 1) := by decide +kernel
theorem dX3_palest_43 : decode cX3_palest 43 = .ok (.iadd, 1) := by decide +kernel
theorem dX3_palest_44 : decode cX3_palest 44 = .ok (.istore_n 1, 1) := by decide +kernel
theorem dX3_palest_45 : decode cX3_palest 45 = .ok (.iinc 3 1, 3) := by decide +kernel
theorem dX3_palest_48 : decode cX3_palest 48 = .ok (.goto (-42), 3) := by decide +kernel
theorem dX3_palest_51 : decode cX3_palest 51 = .ok (.iload_n 1, 1) := by decide +kernel
theorem dX3_palest_52 : decode cX3_palest 52 = .ok (.ireturn, 1) := by decide +kernel
theorem dX3_stepOf_0 : decode cX3_stepOf 0 = .ok (.iload_n 0, 1) := by decide +kernel
theorem dX3_stepOf_1 : decode cX3_stepOf 1 = .ok (.lookupswitch 62 #[(4, 51), (6, 54), (8, 56), (12, 58), (24, 60)], 51) := by decide +kernel
theorem dX3_stepOf_52 : decode cX3_stepOf 52 = .ok (.bipush 6, 2) := by decide +kernel
theorem dX3_stepOf_54 : decode cX3_stepOf 54 = .ok (.ireturn, 1) := by decide +kernel
theorem dX3_stepOf_55 : decode cX3_stepOf 55 = .ok (.iconst 4, 1) := by decide +kernel
theorem dX3_stepOf_56 : decode cX3_stepOf 56 = .ok (.ireturn, 1) := by decide +kernel
theorem dX3_stepOf_57 : decode cX3_stepOf 57 = .ok (.iconst 3, 1) := by decide +kernel
theorem dX3_stepOf_58 : decode cX3_stepOf 58 = .ok (.ireturn, 1) := by decide +kernel
theorem dX3_stepOf_59 : decode cX3_stepOf 59 = .ok (.iconst 2, 1) := by decide +kernel
theorem dX3_stepOf_60 : decode cX3_stepOf 60 = .ok (.ireturn, 1) := by decide +kernel
theorem dX3_stepOf_61 : decode cX3_stepOf 61 = .ok (.iconst 1, 1) := by decide +kernel
theorem dX3_stepOf_62 : decode cX3_stepOf 62 = .ok (.ireturn, 1) := by decide +kernel
theorem dX3_stepOf_63 : decode cX3_stepOf 63 = .ok (.iconst (-1), 1) := by decide +kernel
theorem dX3_stepOf_64 : decode cX3_stepOf 64 = .ok (.ireturn, 1) := by decide +kernel
theorem dX3_needNail_0 : decode cX3_needNail 0 = .ok (.iload_n 1, 1) := by decide +kernel
theorem dX3_needNail_1 : decode cX3_needNail 1 = .ok (.ifCond .lt 14, 3) := by decide +kernel
theorem dX3_needNail_4 : decode cX3_needNail 4 = .ok (.iload_n 1, 1) := by decide +kernel
theorem dX3_needNail_5 : decode cX3_needNail 5 = .ok (.aload_n 0, 1) := by decide +kernel
theorem dX3_needNail_6 : decode cX3_needNail 6 = .ok (.getfield 34, 3) := by decide +kernel
theorem dX3_needNail_9 : decode cX3_needNail 9 = .ok (.getfield 55, 3) := by decide +kernel
theorem dX3_needNail_12 : decode cX3_needNail 12 = .ok (.if_icmp .lt 14, 3) := by decide +kernel
theorem dX3_needNail_15 : decode cX3_needNail 15 = .ok (.new 322, 3) := by decide +kernel
theorem dX3_needNail_18 : decode cX3_needNail 18 = .ok (.dup, 1) := by decide +kernel
theorem dX3_needNail_19 : decode cX3_needNail 19 = .ok (.ldc_w 324, 3) := by decide +kernel
theorem dX3_needNail_22 : decode cX3_needNail 22 = .ok (.invokespecial 326, 3) := by decide +kernel
theorem dX3_needNail_25 : decode cX3_needNail 25 = .ok (.athrow, 1) := by decide +kernel
theorem dX3_needNail_26 : decode cX3_needNail 26 = .ok (.return_, 1) := by decide +kernel
theorem dX3_needSpool_0 : decode cX3_needSpool 0 = .ok (.iload_n 0, 1) := by decide +kernel
theorem dX3_needSpool_1 : decode cX3_needSpool 1 = .ok (.ifCond .lt 8, 3) := by decide +kernel
theorem dX3_needSpool_4 : decode cX3_needSpool 4 = .ok (.iload_n 0, 1) := by decide +kernel
theorem dX3_needSpool_5 : decode cX3_needSpool 5 = .ok (.iconst 3, 1) := by decide +kernel
theorem dX3_needSpool_6 : decode cX3_needSpool 6 = .ok (.if_icmp .lt 14, 3) := by decide +kernel
theorem dX3_needSpool_9 : decode cX3_needSpool 9 = .ok (.new 322, 3) := by decide +kernel
theorem dX3_needSpool_12 : decode cX3_needSpool 12 = .ok (.dup, 1) := by decide +kernel
theorem dX3_needSpool_13 : decode cX3_needSpool 13 = .ok (.ldc_w 327, 3) := by decide +kernel
theorem dX3_needSpool_16 : decode cX3_needSpool 16 = .ok (.invokespecial 326, 3) := by decide +kernel
theorem dX3_needSpool_19 : decode cX3_needSpool 19 = .ok (.athrow, 1) := by decide +kernel
theorem dX3_needSpool_20 : decode cX3_needSpool 20 = .ok (.return_, 1) := by decide +kernel
theorem dX3_needSetting_0 : decode cX3_needSetting 0 = .ok (.iload_n 0, 1) := by decide +kernel
theorem dX3_needSetting_1 : decode cX3_needSetting 1 = .ok (.ifCond .lt 8, 3) := by decide +kernel
theorem dX3_needSetting_4 : decode cX3_needSetting 4 = .ok (.iload_n 0, 1) := by decide +kernel
theorem dX3_needSetting_5 : decode cX3_needSetting 5 = .ok (.iconst 3, 1) := by decide +kernel
theorem dX3_needSetting_6 : decode cX3_needSetting 6 = .ok (.if_icmp .lt 14, 3) := by decide +kernel
theorem dX3_needSetting_9 : decode cX3_needSetting 9 = .ok (.new 322, 3) := by decide +kernel
theorem dX3_needSetting_12 : decode cX3_needSetting 12 = .ok (.dup, 1) := by decide +kernel
theorem dX3_needSetting_13 : decode cX3_needSetting 13 = .ok (.ldc_w 329, 3) := by decide +kernel
theorem dX3_needSetting_16 : decode cX3_needSetting 16 = .ok (.invokespecial 326, 3) := by decide +kernel
theorem dX3_needSetting_19 : decode cX3_needSetting 19 = .ok (.athrow, 1) := by decide +kernel
theorem dX3_needSetting_20 : decode cX3_needSetting 20 = .ok (.return_, 1) := by decide +kernel
theorem dX3_needSquare_0 : decode cX3_needSquare 0 = .ok (.iload_n 0, 1) := by decide +kernel
theorem dX3_needSquare_1 : decode cX3_needSquare 1 = .ok (.ifCond .lt 19, 3) := by decide +kernel
theorem dX3_needSquare_4 : decode cX3_needSquare 4 = .ok (.iload_n 0, 1) := by decide +kernel
theorem dX3_needSquare_5 : decode cX3_needSquare 5 = .ok (.bipush 12, 2) := by decide +kernel
theorem dX3_needSquare_7 : decode cX3_needSquare 7 = .ok (.if_icmp .ge 13, 3) := by decide +kernel
theorem dX3_needSquare_10 : decode cX3_needSquare 10 = .ok (.iload_n 1, 1) := by decide +kernel
theorem dX3_needSquare_11 : decode cX3_needSquare 11 = .ok (.ifCond .lt 9, 3) := by decide +kernel
theorem dX3_needSquare_14 : decode cX3_needSquare 14 = .ok (.iload_n 1, 1) := by decide +kernel
theorem dX3_needSquare_15 : decode cX3_needSquare 15 = .ok (.bipush 12, 2) := by decide +kernel
theorem dX3_needSquare_17 : decode cX3_needSquare 17 = .ok (.if_icmp .lt 14, 3) := by decide +kernel
theorem dX3_needSquare_20 : decode cX3_needSquare 20 = .ok (.new 322, 3) := by decide +kernel
theorem dX3_needSquare_23 : decode cX3_needSquare 23 = .ok (.dup, 1) := by decide +kernel
theorem dX3_needSquare_24 : decode cX3_needSquare 24 = .ok (.ldc_w 331, 3) := by decide +kernel
theorem dX3_needSquare_27 : decode cX3_needSquare 27 = .ok (.invokespecial 326, 3) := by decide +kernel
theorem dX3_needSquare_30 : decode cX3_needSquare 30 = .ok (.athrow, 1) := by decide +kernel
theorem dX3_needSquare_31 : decode cX3_needSquare 31 = .ok (.return_, 1) := by decide +kernel
theorem dX3_needRange_0 : decode cX3_needRange 0 = .ok (.iload_n 0, 1) := by decide +kernel
theorem dX3_needRange_1 : decode cX3_needRange 1 = .ok (.iload_n 1, 1) := by decide +kernel
theorem dX3_needRange_2 : decode cX3_needRange 2 = .ok (.if_icmp .lt 8, 3) := by decide +kernel
theorem dX3_needRange_5 : decode cX3_needRange 5 = .ok (.iload_n 0, 1) := by decide +kernel
theorem dX3_needRange_6 : decode cX3_needRange 6 = .ok (.iload_n 2, 1) := by decide +kernel
theorem dX3_needRange_7 : decode cX3_needRange 7 = .ok (.if_icmp .le 13, 3) := by decide +kernel
theorem dX3_needRange_10 : decode cX3_needRange 10 = .ok (.new 45, 3) := by decide +kernel
theorem dX3_needRange_13 : decode cX3_needRange 13 = .ok (.dup, 1) := by decide +kernel
theorem dX3_needRange_14 : decode cX3_needRange 14 = .ok (.ldc 216, 2) := by decide +kernel
theorem dX3_needRange_16 : decode cX3_needRange 16 = .ok (.invokespecial 49, 3) := by decide +kernel
theorem dX3_needRange_19 : decode cX3_needRange 19 = .ok (.athrow, 1) := by decide +kernel
theorem dX3_needRange_20 : decode cX3_needRange 20 = .ok (.return_, 1) := by decide +kernel
theorem dX3_save_0 : decode cX3_save 0 = .ok (.aload_n 0, 1) := by decide +kernel
theorem dX3_save_1 : decode cX3_save 1 = .ok (.getfield 187, 3) := by decide +kernel
theorem dX3_save_4 : decode cX3_save 4 = .ok (.bipush 6, 2) := by decide +kernel
theorem dX3_save_6 : decode cX3_save 6 = .ok (.if_icmp .lt 50, 3) := by decide +kernel
theorem dX3_save_9 : decode cX3_save 9 = .ok (.aload_n 0, 1) := by decide +kernel
theorem dX3_save_10 : decode cX3_save 10 = .ok (.getfield 26, 3) := by decide +kernel
theorem dX3_save_13 : decode cX3_save 13 = .ok (.iconst 0, 1) := by decide +kernel
theorem dX3_save_14 : decode cX3_save 14 = .ok (.aaload, 1) := by decide +kernel
theorem dX3_save_15 : decode cX3_save 15 = .ok (.astore_n 1, 1) := by decide +kernel
theorem dX3_save_16 : decode cX3_save 16 = .ok (.iconst 1, 1) := by decide +kernel
theorem dX3_save_17 : decode cX3_save 17 = .ok (.istore_n 2, 1) := by decide +kernel
theorem dX3_save_18 : decode cX3_save 18 = .ok (.iload_n 2, 1) := by decide +kernel
theorem dX3_save_19 : decode cX3_save 19 = .ok (.bipush 6, 2) := by decide +kernel
theorem dX3_save_21 : decode cX3_save 21 = .ok (.if_icmp .ge 23, 3) := by decide +kernel
theorem dX3_save_24 : decode cX3_save 24 = .ok (.aload_n 0, 1) := by decide +kernel
theorem dX3_save_25 : decode cX3_save 25 = .ok (.getfield 26, 3) := by decide +kernel
theorem dX3_save_28 : decode cX3_save 28 = .ok (.iload_n 2, 1) := by decide +kernel
theorem dX3_save_29 : decode cX3_save 29 = .ok (.iconst 1, 1) := by decide +kernel
theorem dX3_save_30 : decode cX3_save 30 = .ok (.isub, 1) := by decide +kernel
theorem dX3_save_31 : decode cX3_save 31 = .ok (.aload_n 0, 1) := by decide +kernel
theorem dX3_save_32 : decode cX3_save 32 = .ok (.getfield 26, 3) := by decide +kernel
theorem dX3_save_35 : decode cX3_save 35 = .ok (.iload_n 2, 1) := by decide +kernel
theorem dX3_save_36 : decode cX3_save 36 = .ok (.aaload, 1) := by decide +kernel
theorem dX3_save_37 : decode cX3_save 37 = .ok (.aastore, 1) := by decide +kernel
theorem dX3_save_38 : decode cX3_save 38 = .ok (.iinc 2 1, 3) := by decide +kernel
theorem dX3_save_41 : decode cX3_save 41 = .ok (.goto (-23), 3) := by decide +kernel
theorem dX3_save_44 : decode cX3_save 44 = .ok (.aload_n 0, 1) := by decide +kernel
theorem dX3_save_45 : decode cX3_save 45 = .ok (.getfield 26, 3) := by decide +kernel
theorem dX3_save_48 : decode cX3_save 48 = .ok (.iconst 5, 1) := by decide +kernel
theorem dX3_save_49 : decode cX3_save 49 = .ok (.aload_n 1, 1) := by decide +kernel
theorem dX3_save_50 : decode cX3_save 50 = .ok (.aastore, 1) := by decide +kernel
theorem dX3_save_51 : decode cX3_save 51 = .ok (.aload_n 0, 1) := by decide +kernel
theorem dX3_save_52 : decode cX3_save 52 = .ok (.iconst 5, 1) := by decide +kernel
theorem dX3_save_53 : decode cX3_save 53 = .ok (.putfield 187, 3) := by decide +kernel
theorem dX3_save_56 : decode cX3_save 56 = .ok (.aload_n 0, 1) := by decide +kernel
theorem dX3_save_57 : decode cX3_save 57 = .ok (.aload_n 0, 1) := by decide +kernel
theorem dX3_save_58 : decode cX3_save 58 = .ok (.getfield 26, 3) := by decide +kernel
theorem dX3_save_61 : decode cX3_save 61 = .ok (.aload_n 0, 1) := by decide +kernel
theorem dX3_save_62 : decode cX3_save 62 = .ok (.getfield 187, 3) := by decide +kernel
theorem dX3_save_65 : decode cX3_save 65 = .ok (.invokevirtual 177, 3) := by decide +kernel
theorem dX3_save_68 : decode cX3_save 68 = .ok (.aload_n 0, 1) := by decide +kernel
theorem dX3_save_69 : decode cX3_save 69 = .ok (.dup, 1) := by decide +kernel
theorem dX3_save_70 : decode cX3_save 70 = .ok (.getfield 187, 3) := by decide +kernel
theorem dX3_save_73 : decode cX3_save 73 = .ok (.iconst 1, 1) := by decide +kernel
theorem dX3_save_74 : decode cX3_save 74 = .ok (.iadd, 1) := by decide +kernel
theorem dX3_save_75 : decode cX3_save 75 = .ok (.putfield 187, 3) := by decide +kernel
theorem dX3_save_78 : decode cX3_save 78 = .ok (.return_, 1) := by decide +kernel
theorem dX3_copyTo_0 : decode cX3_copyTo 0 = .ok (.aload_n 1, 1) := by decide +kernel
theorem dX3_copyTo_1 : decode cX3_copyTo 1 = .ok (.iload_n 2, 1) := by decide +kernel
theorem dX3_copyTo_2 : decode cX3_copyTo 2 = .ok (.aaload, 1) := by decide +kernel
theorem dX3_copyTo_3 : decode cX3_copyTo 3 = .ok (.astore_n 3, 1) := by decide +kernel
theorem dX3_copyTo_4 : decode cX3_copyTo 4 = .ok (.aload_n 3, 1) := by decide +kernel
theorem dX3_copyTo_5 : decode cX3_copyTo 5 = .ok (.ifnonnull 22, 3) := by decide +kernel
theorem dX3_copyTo_8 : decode cX3_copyTo 8 = .ok (.new 20, 3) := by decide +kernel
theorem dX3_copyTo_11 : decode cX3_copyTo 11 = .ok (.dup, 1) := by decide +kernel
theorem dX3_copyTo_12 : decode cX3_copyTo 12 = .ok (.aload_n 0, 1) := by decide +kernel
theorem dX3_copyTo_13 : decode cX3_copyTo 13 = .ok (.getfield 34, 3) := by decide +kernel
theorem dX3_copyTo_16 : decode cX3_copyTo 16 = .ok (.getfield 333, 3) := by decide +kernel
theorem dX3_copyTo_19 : decode cX3_copyTo 19 = .ok (.invokespecial 31, 3) := by decide +kernel
theorem dX3_copyTo_22 : decode cX3_copyTo 22 = .ok (.astore_n 3, 1) := by decide +kernel
theorem dX3_copyTo_23 : decode cX3_copyTo 23 = .ok (.aload_n 1, 1) := by decide +kernel
theorem dX3_copyTo_24 : decode cX3_copyTo 24 = .ok (.iload_n 2, 1) := by decide +kernel
theorem dX3_copyTo_25 : decode cX3_copyTo 25 = .ok (.aload_n 3, 1) := by decide +kernel
theorem dX3_copyTo_26 : decode cX3_copyTo 26 = .ok (.aastore, 1) := by decide +kernel
theorem dX3_copyTo_27 : decode cX3_copyTo 27 = .ok (.aload_n 3, 1) := by decide +kernel
theorem dX3_copyTo_28 : decode cX3_copyTo 28 = .ok (.aload_n 0, 1) := by decide +kernel
theorem dX3_copyTo_29 : decode cX3_copyTo 29 = .ok (.getfield 34, 3) := by decide +kernel
theorem dX3_copyTo_32 : decode cX3_copyTo 32 = .ok (.invokevirtual 183, 3) := by decide +kernel
theorem dX3_copyTo_35 : decode cX3_copyTo 35 = .ok (.return_, 1) := by decide +kernel
