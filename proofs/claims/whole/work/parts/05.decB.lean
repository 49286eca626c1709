theorem dX3_init_0 : decode cX3_init 0 = .ok (.aload_n 0, 1) := by decide +kernel
theorem dX3_init_1 : decode cX3_init 1 = .ok (.invokespecial 3, 3) := by decide +kernel
theorem dX3_init_4 : decode cX3_init 4 = .ok (.aload_n 0, 1) := by decide +kernel
theorem dX3_init_5 : decode cX3_init 5 = .ok (.sipush 144, 3) := by decide +kernel
theorem dX3_init_8 : decode cX3_init 8 = .ok (.newarray .int, 2) := by decide +kernel
theorem dX3_init_10 : decode cX3_init 10 = .ok (.putfield 9, 3) := by decide +kernel
theorem dX3_init_13 : decode cX3_init 13 = .ok (.aload_n 0, 1) := by decide +kernel
theorem dX3_init_14 : decode cX3_init 14 = .ok (.new 13, 3) := by decide +kernel
theorem dX3_init_17 : decode cX3_init 17 = .ok (.dup, 1) := by decide +kernel
theorem dX3_init_18 : decode cX3_init 18 = .ok (.invokespecial 15, 3) := by decide +kernel
theorem dX3_init_21 : decode cX3_init 21 = .ok (.putfield 16, 3) := by decide +kernel
theorem dX3_init_24 : decode cX3_init 24 = .ok (.aload_n 0, 1) := by decide +kernel
theorem dX3_init_25 : decode cX3_init 25 = .ok (.iconst 2, 1) := by decide +kernel
theorem dX3_init_26 : decode cX3_init 26 = .ok (.anewarray 20, 3) := by decide +kernel
theorem dX3_init_29 : decode cX3_init 29 = .ok (.putfield 22, 3) := by decide +kernel
theorem dX3_init_32 : decode cX3_init 32 = .ok (.aload_n 0, 1) := by decide +kernel
theorem dX3_init_33 : decode cX3_init 33 = .ok (.bipush 6, 2) := by decide +kernel
theorem dX3_init_35 : decode cX3_init 35 = .ok (.anewarray 20, 3) := by decide +kernel
theorem dX3_init_38 : decode cX3_init 38 = .ok (.putfield 26, 3) := by decide +kernel
theorem dX3_init_41 : decode cX3_init 41 = .ok (.sipush 276, 3) := by decide +kernel
theorem dX3_init_44 : decode cX3_init 44 = .ok (.anewarray 29, 3) := by decide +kernel
theorem dX3_init_47 : decode cX3_init 47 = .ok (.astore_n 1, 1) := by decide +kernel
theorem dX3_init_48 : decode cX3_init 48 = .ok (.aload_n 0, 1) := by decide +kernel
theorem dX3_init_49 : decode cX3_init 49 = .ok (.new 20, 3) := by decide +kernel
theorem dX3_init_52 : decode cX3_init 52 = .ok (.dup, 1) := by decide +kernel
theorem dX3_init_53 : decode cX3_init 53 = .ok (.aload_n 1, 1) := by decide +kernel
theorem dX3_init_54 : decode cX3_init 54 = .ok (.invokespecial 31, 3) := by decide +kernel
theorem dX3_init_57 : decode cX3_init 57 = .ok (.putfield 34, 3) := by decide +kernel
theorem dX3_init_60 : decode cX3_init 60 = .ok (.aload_n 0, 1) := by decide +kernel
theorem dX3_init_61 : decode cX3_init 61 = .ok (.new 20, 3) := by decide +kernel
theorem dX3_init_64 : decode cX3_init 64 = .ok (.dup, 1) := by decide +kernel
theorem dX3_init_65 : decode cX3_init 65 = .ok (.aload_n 1, 1) := by decide +kernel
theorem dX3_init_66 : decode cX3_init 66 = .ok (.invokespecial 31, 3) := by decide +kernel
theorem dX3_init_69 : decode cX3_init 69 = .ok (.putfield 38, 3) := by decide +kernel
theorem dX3_init_72 : decode cX3_init 72 = .ok (.return_, 1) := by decide +kernel
theorem dX3_nails_0 : decode cX3_nails 0 = .ok (.iload_n 1, 1) := by decide +kernel
theorem dX3_nails_1 : decode cX3_nails 1 = .ok (.invokestatic 41, 3) := by decide +kernel
theorem dX3_nails_4 : decode cX3_nails 4 = .ok (.istore_n 2, 1) := by decide +kernel
theorem dX3_nails_5 : decode cX3_nails 5 = .ok (.iload_n 2, 1) := by decide +kernel
theorem dX3_nails_6 : decode cX3_nails 6 = .ok (.iconst (-1), 1) := by decide +kernel
theorem dX3_nails_7 : decode cX3_nails 7 = .ok (.if_icmp .ne 13, 3) := by decide +kernel
theorem dX3_nails_10 : decode cX3_nails 10 = .ok (.new 45, 3) := by decide +kernel
theorem dX3_nails_13 : decode cX3_nails 13 = .ok (.dup, 1) := by decide +kernel
theorem dX3_nails_14 : decode cX3_nails 14 = .ok (.ldc 47, 2) := by decide +kernel
theorem dX3_nails_16 : decode cX3_nails 16 = .ok (.invokespecial 49, 3) := by decide +kernel
theorem dX3_nails_19 : decode cX3_nails 19 = .ok (.athrow, 1) := by decide +kernel
theorem dX3_nails_20 : decode cX3_nails 20 = .ok (.aload_n 0, 1) := by decide +kernel
theorem dX3_nails_21 : decode cX3_nails 21 = .ok (.invokevirtual 52, 3) := by decide +kernel
theorem dX3_nails_24 : decode cX3_nails 24 = .ok (.aload_n 0, 1) := by decide +kernel
theorem dX3_nails_25 : decode cX3_nails 25 = .ok (.getfield 34, 3) := by decide +kernel
theorem dX3_nails_28 : decode cX3_nails 28 = .ok (.getfield 55, 3) := by decide +kernel
theorem dX3_nails_31 : decode cX3_nails 31 = .ok (.istore_n 3, 1) := by decide +kernel
theorem dX3_nails_32 : decode cX3_nails 32 = .ok (.aload_n 0, 1) := by decide +kernel
theorem dX3_nails_33 : decode cX3_nails 33 = .ok (.getfield 34, 3) := by decide +kernel
theorem dX3_nails_36 : decode cX3_nails 36 = .ok (.invokevirtual 59, 3) := by decide +kernel
theorem dX3_nails_39 : decode cX3_nails 39 = .ok (.aload_n 0, 1) := by decide +kernel
theorem dX3_nails_40 : decode cX3_nails 40 = .ok (.getfield 34, 3) := by decide +kernel
theorem dX3_nails_43 : decode cX3_nails 43 = .ok (.iload_n 1, 1) := by decide +kernel
theorem dX3_nails_44 : decode cX3_nails 44 = .ok (.putfield 55, 3) := by decide +kernel
theorem dX3_nails_47 : decode cX3_nails 47 = .ok (.aload_n 0, 1) := by decide +kernel
theorem dX3_nails_48 : decode cX3_nails 48 = .ok (.getfield 34, 3) := by decide +kernel
theorem dX3_nails_51 : decode cX3_nails 51 = .ok (.iload_n 2, 1) := by decide +kernel
theorem dX3_nails_52 : decode cX3_nails 52 = .ok (.putfield 62, 3) := by decide +kernel
theorem dX3_nails_55 : decode cX3_nails 55 = .ok (.aload_n 0, 1) := by decide +kernel
theorem dX3_nails_56 : decode cX3_nails 56 = .ok (.getfield 34, 3) := by decide +kernel
theorem dX3_nails_59 : decode cX3_nails 59 = .ok (.iconst 0, 1) := by decide +kernel
theorem dX3_nails_60 : decode cX3_nails 60 = .ok (.putfield 65, 3) := by decide +kernel
theorem dX3_nails_63 : decode cX3_nails 63 = .ok (.iload_n 3, 1) := by decide +kernel
theorem dX3_nails_64 : decode cX3_nails 64 = .ok (.ireturn, 1) := by decide +kernel
theorem dX3_spool_0 : decode cX3_spool 0 = .ok (.iload_n 1, 1) := by decide +kernel
theorem dX3_spool_1 : decode cX3_spool 1 = .ok (.invokestatic 68, 3) := by decide +kernel
theorem dX3_spool_4 : decode cX3_spool 4 = .ok (.iload_n 2, 1) := by decide +kernel
theorem dX3_spool_5 : decode cX3_spool 5 = .ok (.iconst 1, 1) := by decide +kernel
theorem dX3_spool_6 : decode cX3_spool 6 = .ok (.bipush 9, 2) := by decide +kernel
theorem dX3_spool_8 : decode cX3_spool 8 = .ok (.invokestatic 72, 3) := by decide +kernel
theorem dX3_spool_11 : decode cX3_spool 11 = .ok (.iload_n 3, 1) := by decide +kernel
theorem dX3_spool_12 : decode cX3_spool 12 = .ok (.iconst 0, 1) := by decide +kernel
theorem dX3_spool_13 : decode cX3_spool 13 = .ok (.sipush 9999, 3) := by decide +kernel
theorem dX3_spool_16 : decode cX3_spool 16 = .ok (.invokestatic 72, 3) := by decide +kernel
theorem dX3_spool_19 : decode cX3_spool 19 = .ok (.iload_n 1, 1) := by decide +kernel
theorem dX3_spool_20 : decode cX3_spool 20 = .ok (.aload_n 0, 1) := by decide +kernel
theorem dX3_spool_21 : decode cX3_spool 21 = .ok (.getfield 34, 3) := by decide +kernel
theorem dX3_spool_24 : decode cX3_spool 24 = .ok (.getfield 76, 3) := by decide +kernel
theorem dX3_spool_27 : decode cX3_spool 27 = .ok (.if_icmp .eq 14, 3) := by decide +kernel
theorem dX3_spool_30 : decode cX3_spool 30 = .ok (.aload_n 0, 1) := by decide +kernel
theorem dX3_spool_31 : decode cX3_spool 31 = .ok (.getfield 34, 3) := by decide +kernel
theorem dX3_spool_34 : decode cX3_spool 34 = .ok (.iload_n 1, 1) := by decide +kernel
theorem dX3_spool_35 : decode cX3_spool 35 = .ok (.invokevirtual 79, 3) := by decide +kernel
theorem dX3_spool_38 : decode cX3_spool 38 = .ok (.ifCond .le 13, 3) := by decide +kernel
theorem dX3_spool_41 : decode cX3_spool 41 = .ok (.new 82, 3) := by decide +kernel
theorem dX3_spool_44 : decode cX3_spool 44 = .ok (.dup, 1) := by decide +kernel
theorem dX3_spool_45 : decode cX3_spool 45 = .ok (.ldc 84, 2) := by decide +kernel
theorem dX3_spool_47 : decode cX3_spool 47 = .ok (.invokespecial 86, 3) := by decide +kernel
theorem dX3_spool_50 : decode cX3_spool 50 = .ok (.athrow, 1) := by decide +kernel
theorem dX3_spool_51 : decode cX3_spool 51 = .ok (.aload_n 0, 1) := by decide +kernel
theorem dX3_spool_52 : decode cX3_spool 52 = .ok (.invokevirtual 52, 3) := by decide +kernel
theorem dX3_spool_55 : decode cX3_spool 55 = .ok (.aload_n 0, 1) := by decide +kernel
theorem dX3_spool_56 : decode cX3_spool 56 = .ok (.getfield 34, 3) := by decide +kernel
theorem dX3_spool_59 : decode cX3_spool 59 = .ok (.getfield 87, 3) := by decide +kernel
theorem dX3_spool_62 : decode cX3_spool 62 = .ok (.iload_n 1, 1) := by decide +kernel
theorem dX3_spool_63 : decode cX3_spool 63 = .ok (.iaload, 1) := by decide +kernel
theorem dX3_spool_64 : decode cX3_spool 64 = .ok (.istore 4, 2) := by decide +kernel
theorem dX3_spool_66 : decode cX3_spool 66 = .ok (.aload_n 0, 1) := by decide +kernel
theorem dX3_spool_67 : decode cX3_spool 67 = .ok (.getfield 34, 3) := by decide +kernel
theorem dX3_spool_70 : decode cX3_spool 70 = .ok (.getfield 90, 3) := by decide +kernel
theorem dX3_spool_73 : decode cX3_spool 73 = .ok (.iload_n 1, 1) := by decide +kernel
theorem dX3_spool_74 : decode cX3_spool 74 = .ok (.iload_n 2, 1) := by decide +kernel
theorem dX3_spool_75 : decode cX3_spool 75 = .ok (.iastore, 1) := by decide +kernel
theorem dX3_spool_76 : decode cX3_spool 76 = .ok (.aload_n 0, 1) := by decide +kernel
theorem dX3_spool_77 : decode cX3_spool 77 = .ok (.getfield 34, 3) := by decide +kernel
theorem dX3_spool_80 : decode cX3_spool 80 = .ok (.getfield 87, 3) := by decide +kernel
theorem dX3_spool_83 : decode cX3_spool 83 = .ok (.iload_n 1, 1) := by decide +kernel
theorem dX3_spool_84 : decode cX3_spool 84 = .ok (.iload_n 3, 1) := by decide +kernel
theorem dX3_spool_85 : decode cX3_spool 85 = .ok (.iastore, 1) := by decide +kernel
theorem dX3_spool_86 : decode cX3_spool 86 = .ok (.iload 4, 2) := by decide +kernel
theorem dX3_spool_88 : decode cX3_spool 88 = .ok (.ireturn, 1) := by decide +kernel
theorem dX3_knot_0 : decode cX3_knot 0 = .ok (.iload_n 1, 1) := by decide +kernel
theorem dX3_knot_1 : decode cX3_knot 1 = .ok (.invokestatic 68, 3) := by decide +kernel
theorem dX3_knot_4 : decode cX3_knot 4 = .ok (.iload_n 1, 1) := by decide +kernel
theorem dX3_knot_5 : decode cX3_knot 5 = .ok (.aload_n 0, 1) := by decide +kernel
theorem dX3_knot_6 : decode cX3_knot 6 = .ok (.getfield 34, 3) := by decide +kernel
theorem dX3_knot_9 : decode cX3_knot 9 = .ok (.getfield 76, 3) := by decide +kernel
theorem dX3_knot_12 : decode cX3_knot 12 = .ok (.if_icmp .ne 13, 3) := by decide +kernel
theorem dX3_knot_15 : decode cX3_knot 15 = .ok (.new 82, 3) := by decide +kernel
theorem dX3_knot_18 : decode cX3_knot 18 = .ok (.dup, 1) := by decide +kernel
theorem dX3_knot_19 : decode cX3_knot 19 = .ok (.ldc 93, 2) := by decide +kernel
theorem dX3_knot_21 : decode cX3_knot 21 = .ok (.invokespecial 86, 3) := by decide +kernel
theorem dX3_knot_24 : decode cX3_knot 24 = .ok (.athrow, 1) := by decide +kernel
theorem dX3_knot_25 : decode cX3_knot 25 = .ok (.aload_n 0, 1) := by decide +kernel
theorem dX3_knot_26 : decode cX3_knot 26 = .ok (.invokevirtual 52, 3) := by decide +kernel
theorem dX3_knot_29 : decode cX3_knot 29 = .ok (.aload_n 0, 1) := by decide +kernel
theorem dX3_knot_30 : decode cX3_knot 30 = .ok (.getfield 34, 3) := by decide +kernel
theorem dX3_knot_33 : decode cX3_knot 33 = .ok (.iload_n 1, 1) := by decide +kernel
theorem dX3_knot_34 : decode cX3_knot 34 = .ok (.putfield 76, 3) := by decide +kernel
theorem dX3_knot_37 : decode cX3_knot 37 = .ok (.aload_n 0, 1) := by decide +kernel
theorem dX3_knot_38 : decode cX3_knot 38 = .ok (.getfield 34, 3) := by decide +kernel
theorem dX3_knot_41 : decode cX3_knot 41 = .ok (.dup, 1) := by decide +kernel
theorem dX3_knot_42 : decode cX3_knot 42 = .ok (.getfield 95, 3) := by decide +kernel
theorem dX3_knot_45 : decode cX3_knot 45 = .ok (.iconst 1, 1) := by decide +kernel
theorem dX3_knot_46 : decode cX3_knot 46 = .ok (.iadd, 1) := by decide +kernel
theorem dX3_knot_47 : decode cX3_knot 47 = .ok (.putfield 95, 3) := by decide +kernel
theorem dX3_knot_50 : decode cX3_knot 50 = .ok (.aload_n 0, 1) := by decide +kernel
theorem dX3_knot_51 : decode cX3_knot 51 = .ok (.getfield 34, 3) := by decide +kernel
theorem dX3_knot_54 : decode cX3_knot 54 = .ok (.getfield 95, 3) := by decide +kernel
theorem dX3_knot_57 : decode cX3_knot 57 = .ok (.ireturn, 1) := by decide +kernel
theorem dX3_set_0 : decode cX3_set 0 = .ok (.iload_n 1, 1) := by decide +kernel
theorem dX3_set_1 : decode cX3_set 1 = .ok (.invokestatic 98, 3) := by decide +kernel
theorem dX3_set_4 : decode cX3_set 4 = .ok (.iload_n 2, 1) := by decide +kernel
theorem dX3_set_5 : decode cX3_set 5 = .ok (.iconst 1, 1) := by decide +kernel
theorem dX3_set_6 : decode cX3_set 6 = .ok (.getstatic 101, 3) := by decide +kernel
theorem dX3_set_9 : decode cX3_set 9 = .ok (.iload_n 1, 1) := by decide +kernel
theorem dX3_set_10 : decode cX3_set 10 = .ok (.iaload, 1) := by decide +kernel
theorem dX3_set_11 : decode cX3_set 11 = .ok (.invokestatic 72, 3) := by decide +kernel
theorem dX3_set_14 : decode cX3_set 14 = .ok (.aload_n 0, 1) := by decide +kernel
theorem dX3_set_15 : decode cX3_set 15 = .ok (.invokevirtual 52, 3) := by decide +kernel
theorem dX3_set_18 : decode cX3_set 18 = .ok (.aload_n 0, 1) := by decide +kernel
theorem dX3_set_19 : decode cX3_set 19 = .ok (.getfield 34, 3) := by decide +kernel
theorem dX3_set_22 : decode cX3_set 22 = .ok (.getfield 104, 3) := by decide +kernel
theorem dX3_set_25 : decode cX3_set 25 = .ok (.iload_n 1, 1) := by decide +kernel
theorem dX3_set_26 : decode cX3_set 26 = .ok (.iaload, 1) := by decide +kernel
theorem dX3_set_27 : decode cX3_set 27 = .ok (.istore_n 3, 1) := by decide +kernel
theorem dX3_set_28 : decode cX3_set 28 = .ok (.aload_n 0, 1) := by decide +kernel
theorem dX3_set_29 : decode cX3_set 29 = .ok (.getfield 34, 3) := by decide +kernel
theorem dX3_set_32 : decode cX3_set 32 = .ok (.getfield 104, 3) := by decide +kernel
theorem dX3_set_35 : decode cX3_set 35 = .ok (.iload_n 1, 1) := by decide +kernel
theorem dX3_set_36 : decode cX3_set 36 = .ok (.iload_n 2, 1) := by decide +kernel
theorem dX3_set_37 : decode cX3_set 37 = .ok (.iastore, 1) := by decide +kernel
theorem dX3_set_38 : decode cX3_set 38 = .ok (.iload_n 3, 1) := by decide +kernel
theorem dX3_set_39 : decode cX3_set 39 = .ok (.ireturn, 1) := by decide +kernel
theorem dX3_wind_0 : decode cX3_wind 0 = .ok (.aload_n 0, 1) := by decide +kernel
theorem dX3_wind_1 : decode cX3_wind 1 = .ok (.iload_n 1, 1) := by decide +kernel
theorem dX3_wind_2 : decode cX3_wind 2 = .ok (.invokevirtual 107, 3) := by decide +kernel
theorem dX3_wind_5 : decode cX3_wind 5 = .ok (.aload_n 0, 1) := by decide +kernel
theorem dX3_wind_6 : decode cX3_wind 6 = .ok (.getfield 34, 3) := by decide +kernel
theorem dX3_wind_9 : decode cX3_wind 9 = .ok (.getfield 110, 3) := by decide +kernel
theorem dX3_wind_12 : decode cX3_wind 12 = .ok (.sipush 200, 3) := by decide +kernel
theorem dX3_wind_15 : decode cX3_wind 15 = .ok (.if_icmp .lt 13, 3) := by decide +kernel
theorem dX3_wind_18 : decode cX3_wind 18 = .ok (.new 82, 3) := by decide +kernel
theorem dX3_wind_21 : decode cX3_wind 21 = .ok (.dup, 1) := by decide +kernel
theorem dX3_wind_22 : decode cX3_wind 22 = .ok (.ldc 113, 2) := by decide +kernel
theorem dX3_wind_24 : decode cX3_wind 24 = .ok (.invokespecial 86, 3) := by decide +kernel
theorem dX3_wind_27 : decode cX3_wind 27 = .ok (.athrow, 1) := by decide +kernel
theorem dX3_wind_28 : decode cX3_wind 28 = .ok (.aload_n 0, 1) := by decide +kernel
theorem dX3_wind_29 : decode cX3_wind 29 = .ok (.invokevirtual 52, 3) := by decide +kernel
theorem dX3_wind_32 : decode cX3_wind 32 = .ok (.aload_n 0, 1) := by decide +kernel
theorem dX3_wind_33 : decode cX3_wind 33 = .ok (.getfield 34, 3) := by decide +kernel
theorem dX3_wind_36 : decode cX3_wind 36 = .ok (.iload_n 1, 1) := by decide +kernel
theorem dX3_wind_37 : decode cX3_wind 37 = .ok (.invokevirtual 115, 3) := by decide +kernel
theorem dX3_wind_40 : decode cX3_wind 40 = .ok (.istore_n 2, 1) := by decide +kernel
theorem dX3_wind_41 : decode cX3_wind 41 = .ok (.iload_n 2, 1) := by decide +kernel
theorem dX3_wind_42 : decode cX3_wind 42 = .ok (.ifCond .ne 27, 3) := by decide +kernel
theorem dX3_wind_45 : decode cX3_wind 45 = .ok (.aload_n 0, 1) := by decide +kernel
theorem dX3_wind_46 : decode cX3_wind 46 = .ok (.getfield 34, 3) := by decide +kernel
theorem dX3_wind_49 : decode cX3_wind 49 = .ok (.iload_n 1, 1) := by decide +kernel
theorem dX3_wind_50 : decode cX3_wind 50 = .ok (.invokevirtual 118, 3) := by decide +kernel
theorem dX3_wind_53 : decode cX3_wind 53 = .ok (.aload_n 0, 1) := by decide +kernel
theorem dX3_wind_54 : decode cX3_wind 54 = .ok (.getfield 34, 3) := by decide +kernel
theorem dX3_wind_57 : decode cX3_wind 57 = .ok (.dup, 1) := by decide +kernel
theorem dX3_wind_58 : decode cX3_wind 58 = .ok (.getfield 121, 3) := by decide +kernel
theorem dX3_wind_61 : decode cX3_wind 61 = .ok (.iconst 1, 1) := by decide +kernel
theorem dX3_wind_62 : decode cX3_wind 62 = .ok (.iadd, 1) := by decide +kernel
theorem dX3_wind_63 : decode cX3_wind 63 = .ok (.putfield 121, 3) := by decide +kernel
theorem dX3_wind_66 : decode cX3_wind 66 = .ok (.goto 16, 3) := by decide +kernel
theorem dX3_wind_69 : decode cX3_wind 69 = .ok (.aload_n 0, 1) := by decide +kernel
theorem dX3_wind_70 : decode cX3_wind 70 = .ok (.getfield 34, 3) := by decide +kernel
theorem dX3_wind_73 : decode cX3_wind 73 = .ok (.dup, 1) := by decide +kernel
theorem dX3_wind_74 : decode cX3_wind 74 = .ok (.getfield 124, 3) := by decide +kernel
theorem dX3_wind_77 : decode cX3_wind 77 = .ok (.iconst 1, 1) := by decide +kernel
theorem dX3_wind_78 : decode cX3_wind 78 = .ok (.iadd, 1) := by decide +kernel
theorem dX3_wind_79 : decode cX3_wind 79 = .ok (.putfield 124, 3) := by decide +kernel
theorem dX3_wind_82 : decode cX3_wind 82 = .ok (.iload_n 2, 1) := by decide +kernel
theorem dX3_wind_83 : decode cX3_wind 83 = .ok (.ireturn, 1) := by decide +kernel
theorem dX3_unwind_0 : decode cX3_unwind 0 = .ok (.aload_n 0, 1) := by decide +kernel
theorem dX3_unwind_1 : decode cX3_unwind 1 = .ok (.getfield 34, 3) := by decide +kernel
theorem dX3_unwind_4 : decode cX3_unwind 4 = .ok (.getfield 110, 3) := by decide +kernel
theorem dX3_unwind_7 : decode cX3_unwind 7 = .ok (.ifCond .ne 13, 3) := by decide +kernel
theorem dX3_unwind_10 : decode cX3_unwind 10 = .ok (.new 82, 3) := by decide +kernel
theorem dX3_unwind_13 : decode cX3_unwind 13 = .ok (.dup, 1) := by decide +kernel
theorem dX3_unwind_14 : decode cX3_unwind 14 = .ok (.ldc 127, 2) := by decide +kernel
theorem dX3_unwind_16 : decode cX3_unwind 16 = .ok (.invokespecial 86, 3) := by decide +kernel
theorem dX3_unwind_19 : decode cX3_unwind 19 = .ok (.athrow, 1) := by decide +kernel
theorem dX3_unwind_20 : decode cX3_unwind 20 = .ok (.aload_n 0, 1) := by decide +kernel
theorem dX3_unwind_21 : decode cX3_unwind 21 = .ok (.invokevirtual 52, 3) := by decide +kernel
theorem dX3_unwind_24 : decode cX3_unwind 24 = .ok (.aload_n 0, 1) := by decide +kernel
theorem dX3_unwind_25 : decode cX3_unwind 25 = .ok (.getfield 34, 3) := by decide +kernel
theorem dX3_unwind_28 : decode cX3_unwind 28 = .ok (.invokevirtual 129, 3) := by decide +kernel
theorem dX3_unwind_31 : decode cX3_unwind 31 = .ok (.aload_n 0, 1) := by decide +kernel
theorem dX3_unwind_32 : decode cX3_unwind 32 = .ok (.getfield 34, 3) := by decide +kernel
theorem dX3_unwind_35 : decode cX3_unwind 35 = .ok (.getfield 65, 3) := by decide +kernel
theorem dX3_unwind_38 : decode cX3_unwind 38 = .ok (.ireturn, 1) := by decide +kernel
theorem dX3_windBest_0 : decode cX3_windBest 0 = .ok (.iload_n 1, 1) := by decide +kernel
theorem dX3_windBest_1 : decode cX3_windBest 1 = .ok (.iconst 1, 1) := by decide +kernel
theorem dX3_windBest_2 : decode cX3_windBest 2 = .ok (.bipush 50, 2) := by decide +kernel
theorem dX3_windBest_4 : decode cX3_windBest 4 = .ok (.invokestatic 72, 3) := by decide +kernel
theorem dX3_windBest_7 : decode cX3_windBest 7 = .ok (.aload_n 0, 1) := by decide +kernel
theorem dX3_windBest_8 : decode cX3_windBest 8 = .ok (.invokevirtual 52, 3) := by decide +kernel
theorem dX3_windBest_11 : decode cX3_windBest 11 = .ok (.iconst 0, 1) := by decide +kernel
theorem dX3_windBest_12 : decode cX3_windBest 12 = .ok (.istore_n 2, 1) := by decide +kernel
theorem dX3_windBest_13 : decode cX3_windBest 13 = .ok (.iload_n 2, 1) := by decide +kernel
theorem dX3_windBest_14 : decode cX3_windBest 14 = .ok (.iload_n 1, 1) := by decide +kernel
theorem dX3_windBest_15 : decode cX3_windBest 15 = .ok (.if_icmp .ge 69, 3) := by decide +kernel
theorem dX3_windBest_18 : decode cX3_windBest 18 = .ok (.aload_n 0, 1) := by decide +kernel
theorem dX3_windBest_19 : decode cX3_windBest 19 = .ok (.getfield 34, 3) := by decide +kernel
theorem dX3_windBest_22 : decode cX3_windBest 22 = .ok (.invokevirtual 132, 3) := by decide +kernel
theorem dX3_windBest_25 : decode cX3_windBest 25 = .ok (.istore_n 3, 1) := by decide +kernel
theorem dX3_windBest_26 : decode cX3_windBest 26 = .ok (.iload_n 3, 1) := by decide +kernel
theorem dX3_windBest_27 : decode cX3_windBest 27 = .ok (.iconst (-1), 1) := by decide +kernel
theorem dX3_windBest_28 : decode cX3_windBest 28 = .ok (.if_icmp .eq 27, 3) := by decide +kernel
theorem dX3_windBest_31 : decode cX3_windBest 31 = .ok (.aload_n 0, 1) := by decide +kernel
theorem dX3_windBest_32 : decode cX3_windBest 32 = .ok (.getfield 34, 3) := by decide +kernel
theorem dX3_windBest_35 : decode cX3_windBest 35 = .ok (.getfield 110, 3) := by decide +kernel
theorem dX3_windBest_38 : decode cX3_windBest 38 = .ok (.sipush 200, 3) := by decide +kernel
theorem dX3_windBest_41 : decode cX3_windBest 41 = .ok (.if_icmp .ge 14, 3) := by decide +kernel
theorem dX3_windBest_44 : decode cX3_windBest 44 = .ok (.aload_n 0, 1) := by decide +kernel
theorem dX3_windBest_45 : decode cX3_windBest 45 = .ok (.getfield 34, 3) := by decide +kernel
theorem dX3_windBest_48 : decode cX3_windBest 48 = .ok (.iload_n 3, 1) := by decide +kernel
theorem dX3_windBest_49 : decode cX3_windBest 49 = .ok (.invokevirtual 136, 3) := by decide +kernel
theorem dX3_windBest_52 : decode cX3_windBest 52 = .ok (.ifCond .gt 5, 3) := by decide +kernel
theorem dX3_windBest_55 : decode cX3_windBest 55 = .ok (.iload_n 2, 1) := by decide +kernel
theorem dX3_windBest_56 : decode cX3_windBest 56 = .ok (.ireturn, 1) := by decide +kernel
theorem dX3_windBest_57 : decode cX3_windBest 57 = .ok (.aload_n 0, 1) := by decide +kernel
theorem dX3_windBest_58 : decode cX3_windBest 58 = .ok (.getfield 34, 3) := by decide +kernel
theorem dX3_windBest_61 : decode cX3_windBest 61 = .ok (.iload_n 3, 1) := by decide +kernel
theorem dX3_windBest_62 : decode cX3_windBest 62 = .ok (.invokevirtual 118, 3) := by decide +kernel
theorem dX3_windBest_65 : decode cX3_windBest 65 = .ok (.aload_n 0, 1) := by decide +kernel
theorem dX3_windBest_66 : decode cX3_windBest 66 = .ok (.getfield 34, 3) := by decide +kernel
theorem dX3_windBest_69 : decode cX3_windBest 69 = .ok (.dup, 1) := by decide +kernel
theorem dX3_windBest_70 : decode cX3_windBest 70 = .ok (.getfield 121, 3) := by decide +kernel
theorem dX3_windBest_73 : decode cX3_windBest 73 = .ok (.iconst 1, 1) := by decide +kernel
theorem dX3_windBest_74 : decode cX3_windBest 74 = .ok (.iadd, 1) := by decide +kernel
theorem dX3_windBest_75 : decode cX3_windBest 75 = .ok (.putfield 121, 3) := by decide +kernel
theorem dX3_windBest_78 : decode cX3_windBest 78 = .ok (.iinc 2 1, 3) := by decide +kernel
theorem dX3_windBest_81 : decode cX3_windBest 81 = .ok (.goto (-68), 3) := by decide +kernel
theorem dX3_windBest_84 : decode cX3_windBest 84 = .ok (.iload_n 1, 1) := by decide +kernel
theorem dX3_windBest_85 : decode cX3_windBest 85 = .ok (.ireturn, 1) := by decide +kernel
theorem dX3_want_0 : decode cX3_want 0 = .ok (.iload_n 1, 1) := by decide +kernel
theorem dX3_want_1 : decode cX3_want 1 = .ok (.iload_n 2, 1) := by decide +kernel
theorem dX3_want_2 : decode cX3_want 2 = .ok (.invokestatic 139, 3) := by decide +kernel
theorem dX3_want_5 : decode cX3_want 5 = .ok (.iload_n 3, 1) := by decide +kernel
theorem dX3_want_6 : decode cX3_want 6 = .ok (.iconst 0, 1) := by decide +kernel
theorem dX3_want_7 : decode cX3_want 7 = .ok (.bipush 9, 2) := by decide +kernel
theorem dX3_want_9 : decode cX3_want 9 = .ok (.invokestatic 72, 3) := by decide +kernel
theorem dX3_want_12 : decode cX3_want 12 = .ok (.aload_n 0, 1) := by decide +kernel
theorem dX3_want_13 : decode cX3_want 13 = .ok (.invokevirtual 52, 3) := by decide +kernel
theorem dX3_want_16 : decode cX3_want 16 = .ok (.iload_n 2, 1) := by decide +kernel
theorem dX3_want_17 : decode cX3_want 17 = .ok (.bipush 12, 2) := by decide +kernel
theorem dX3_want_19 : decode cX3_want 19 = .ok (.imul, 1) := by decide +kernel
theorem dX3_want_20 : decode cX3_want 20 = .ok (.iload_n 1, 1) := by decide +kernel
theorem dX3_want_21 : decode cX3_want 21 = .ok (.iadd, 1) := by decide +kernel
theorem dX3_want_22 : decode cX3_want 22 = .ok (.istore 4, 2) := by decide +kernel
theorem dX3_want_24 : decode cX3_want 24 = .ok (.aload_n 0, 1) := by decide +kernel
theorem dX3_want_25 : decode cX3_want 25 = .ok (.getfield 34, 3) := by decide +kernel
theorem dX3_want_28 : decode cX3_want 28 = .ok (.getfield 143, 3) := by decide +kernel
theorem dX3_want_31 : decode cX3_want 31 = .ok (.iload 4, 2) := by decide +kernel
theorem dX3_want_33 : decode cX3_want 33 = .ok (.iaload, 1) := by decide +kernel
theorem dX3_want_34 : decode cX3_want 34 = .ok (.istore 5, 2) := by decide +kernel
theorem dX3_want_36 : decode cX3_want 36 = .ok (.aload_n 0, 1) := by decide +kernel
theorem dX3_want_37 : decode cX3_want 37 = .ok (.getfield 34, 3) := by decide +kernel
theorem dX3_want_40 : decode cX3_want 40 = .ok (.getfield 143, 3) := by decide +kernel
theorem dX3_want_43 : decode cX3_want 43 = .ok (.iload 4, 2) := by decide +kernel
theorem dX3_want_45 : decode cX3_want 45 = .ok (.iload_n 3, 1) := by decide +kernel
theorem dX3_want_46 : decode cX3_want 46 = .ok (.iastore, 1) := by decide +kernel
theorem dX3_want_47 : decode cX3_want 47 = .ok (.iload 5, 2) := by decide +kernel
theorem dX3_want_49 : decode cX3_want 49 = .ok (.ireturn, 1) := by decide +kernel
theorem dX3_turnFace_0 : decode cX3_turnFace 0 = .ok (.iload_n 1, 1) := by decide +kernel
theorem dX3_turnFace_1 : decode cX3_turnFace 1 = .ok (.iconst 0, 1) := by decide +kernel
theorem dX3_turnFace_2 : decode cX3_turnFace 2 = .ok (.iconst 2, 1) := by decide +kernel
theorem dX3_turnFace_3 : decode cX3_turnFace 3 = .ok (.invokestatic 72, 3) := by decide +kernel
theorem dX3_turnFace_6 : decode cX3_turnFace 6 = .ok (.aload_n 0, 1) := by decide +kernel
theorem dX3_turnFace_7 : decode cX3_turnFace 7 = .ok (.invokevirtual 52, 3) := by decide +kernel
theorem dX3_turnFace_10 : decode cX3_turnFace 10 = .ok (.aload_n 0, 1) := by decide +kernel
theorem dX3_turnFace_11 : decode cX3_turnFace 11 = .ok (.getfield 34, 3) := by decide +kernel
theorem dX3_turnFace_14 : decode cX3_turnFace 14 = .ok (.getfield 143, 3) := by decide +kernel
theorem dX3_turnFace_17 : decode cX3_turnFace 17 = .ok (.iconst 0, 1) := by decide +kernel
theorem dX3_turnFace_18 : decode cX3_turnFace 18 = .ok (.aload_n 0, 1) := by decide +kernel
theorem dX3_turnFace_19 : decode cX3_turnFace 19 = .ok (.getfield 9, 3) := by decide +kernel
theorem dX3_turnFace_22 : decode cX3_turnFace 22 = .ok (.iconst 0, 1) := by decide +kernel
theorem dX3_turnFace_23 : decode cX3_turnFace 23 = .ok (.sipush 144, 3) := by decide +kernel
theorem dX3_turnFace_26 : decode cX3_turnFace 26 = .ok (.invokestatic 146, 3) := by decide +kernel
theorem dX3_turnFace_29 : decode cX3_turnFace 29 = .ok (.iconst 0, 1) := by decide +kernel
theorem dX3_turnFace_30 : decode cX3_turnFace 30 = .ok (.istore_n 2, 1) := by decide +kernel
theorem dX3_turnFace_31 : decode cX3_turnFace 31 = .ok (.iload_n 2, 1) := by decide +kernel
theorem dX3_turnFace_32 : decode cX3_turnFace 32 = .ok (.bipush 12, 2) := by decide +kernel
theorem dX3_turnFace_34 : decode cX3_turnFace 34 = .ok (.if_icmp .ge 112, 3) := by decide +kernel
theorem dX3_turnFace_37 : decode cX3_turnFace 37 = .ok (.iconst 0, 1) := by decide +kernel
theorem dX3_turnFace_38 : decode cX3_turnFace 38 = .ok (.istore_n 3, 1) := by decide +kernel
theorem dX3_turnFace_39 : decode cX3_turnFace 39 = .ok (.iload_n 3, 1) := by decide +kernel
theorem dX3_turnFace_40 : decode cX3_turnFace 40 = .ok (.bipush 12, 2) := by decide +kernel
theorem dX3_turnFace_42 : decode cX3_turnFace 42 = .ok (.if_icmp .ge 98, 3) := by decide +kernel
theorem dX3_turnFace_45 : decode cX3_turnFace 45 = .ok (.aload_n 0, 1) := by decide +kernel
theorem dX3_turnFace_46 : decode cX3_turnFace 46 = .ok (.getfield 9, 3) := by decide +kernel
theorem dX3_turnFace_49 : decode cX3_turnFace 49 = .ok (.iload_n 2, 1) := by decide +kernel
theorem dX3_turnFace_50 : decode cX3_turnFace 50 = .ok (.bipush 12, 2) := by decide +kernel
theorem dX3_turnFace_52 : decode cX3_turnFace 52 = .ok (.imul, 1) := by decide +kernel
theorem dX3_turnFace_53 : decode cX3_turnFace 53 = .ok (.iload_n 3, 1) := by decide +kernel
theorem dX3_turnFace_54 : decode cX3_turnFace 54 = .ok (.iadd, 1) := by decide +kernel
theorem dX3_turnFace_55 : decode cX3_turnFace 55 = .ok (.iaload, 1) := by decide +kernel
theorem dX3_turnFace_56 : decode cX3_turnFace 56 = .ok (.istore 4, 2) := by decide +kernel
theorem dX3_turnFace_58 : decode cX3_turnFace 58 = .ok (.iload_n 1, 1) := by decide +kernel
theorem dX3_turnFace_59 : decode cX3_turnFace 59 = .ok (.ifCond .ne 27, 3) := by decide +kernel
theorem dX3_turnFace_62 : decode cX3_turnFace 62 = .ok (.aload_n 0, 1) := by decide +kernel
theorem dX3_turnFace_63 : decode cX3_turnFace 63 = .ok (.getfield 34, 3) := by decide +kernel
theorem dX3_turnFace_66 : decode cX3_turnFace 66 = .ok (.getfield 143, 3) := by decide +kernel
theorem dX3_turnFace_69 : decode cX3_turnFace 69 = .ok (.iload_n 3, 1) := by decide +kernel
theorem dX3_turnFace_70 : decode cX3_turnFace 70 = .ok (.bipush 12, 2) := by decide +kernel
theorem dX3_turnFace_72 : decode cX3_turnFace 72 = .ok (.imul, 1) := by decide +kernel
theorem dX3_turnFace_73 : decode cX3_turnFace 73 = .ok (.bipush 12, 2) := by decide +kernel
theorem dX3_turnFace_75 : decode cX3_turnFace 75 = .ok (.iadd, 1) := by decide +kernel
theorem dX3_turnFace_76 : decode cX3_turnFace 76 = .ok (.iconst 1, 1) := by decide +kernel
theorem dX3_turnFace_77 : decode cX3_turnFace 77 = .ok (.isub, 1) := by decide +kernel
theorem dX3_turnFace_78 : decode cX3_turnFace 78 = .ok (.iload_n 2, 1) := by decide +kernel
theorem dX3_turnFace_79 : decode cX3_turnFace 79 = .ok (.isub, 1) := by decide +kernel
theorem dX3_turnFace_80 : decode cX3_turnFace 80 = .ok (.iload 4, 2) := by decide +kernel
theorem dX3_turnFace_82 : decode cX3_turnFace 82 = .ok (.iastore, 1) := by decide +kernel
theorem dX3_turnFace_83 : decode cX3_turnFace 83 = .ok (.goto 51, 3) := by decide +kernel
theorem dX3_turnFace_86 : decode cX3_turnFace 86 = .ok (.iload_n 1, 1) := by decide +kernel
theorem dX3_turnFace_87 : decode cX3_turnFace 87 = .ok (.iconst 1, 1) := by decide +kernel
theorem dX3_turnFace_88 : decode cX3_turnFace 88 = .ok (.if_icmp .ne 27, 3) := by decide +kernel
theorem dX3_turnFace_91 : decode cX3_turnFace 91 = .ok (.aload_n 0, 1) := by decide +kernel
theorem dX3_turnFace_92 : decode cX3_turnFace 92 = .ok (.getfield 34, 3) := by decide +kernel
theorem dX3_turnFace_95 : decode cX3_turnFace 95 = .ok (.getfield 143, 3) := by decide +kernel
theorem dX3_turnFace_98 : decode cX3_turnFace 98 = .ok (.iload_n 2, 1) := by decide +kernel
theorem dX3_turnFace_99 : decode cX3_turnFace 99 = .ok (.bipush 12, 2) := by decide +kernel
theorem dX3_turnFace_101 : decode cX3_turnFace 101 = .ok (.imul, 1) := by decide +kernel
theorem dX3_turnFace_102 : decode cX3_turnFace 102 = .ok (.bipush 12, 2) := by decide +kernel
theorem dX3_turnFace_104 : decode cX3_turnFace 104 = .ok (.iadd, 1) := by decide +kernel
theorem dX3_turnFace_105 : decode cX3_turnFace 105 = .ok (.iconst 1, 1) := by decide +kernel
theorem dX3_turnFace_106 : decode cX3_turnFace 106 = .ok (.isub, 1) := by decide +kernel
theorem dX3_turnFace_107 : decode cX3_turnFace 107 = .ok (.iload_n 3, 1) := by decide +kernel
theorem dX3_turnFace_108 : decode cX3_turnFace 108 = .ok (.isub, 1) := by decide +kernel
theorem dX3_turnFace_109 : decode cX3_turnFace 109 = .ok (.iload 4, 2) := by decide +kernel
theorem dX3_turnFace_111 : decode cX3_turnFace 111 = .ok (.iastore, 1) := by decide +kernel
theorem dX3_turnFace_112 : decode cX3_turnFace 112 = .ok (.goto 22, 3) := by decide +kernel
theorem dX3_turnFace_115 : decode cX3_turnFace 115 = .ok (.aload_n 0, 1) := by decide +kernel
theorem dX3_turnFace_116 : decode cX3_turnFace 116 = .ok (.getfield 34, 3) := by decide +kernel
theorem dX3_turnFace_119 : decode cX3_turnFace 119 = .ok (.getfield 143, 3) := by decide +kernel
theorem dX3_turnFace_122 : decode cX3_turnFace 122 = .ok (.iload_n 2, 1) := by decide +kernel
theorem dX3_turnFace_123 : decode cX3_turnFace 123 = .ok (.bipush 12, 2) := by decide +kernel
theorem dX3_turnFace_125 : decode cX3_turnFace 125 = .ok (.imul, 1) := by decide +kernel
theorem dX3_turnFace_126 : decode cX3_turnFace 126 = .ok (.iload_n 3, 1) := by decide +kernel
theorem dX3_turnFace_127 : decode cX3_turnFace 127 = .ok (.iadd, 1) := by decide +kernel
theorem dX3_turnFace_128 : decode cX3_turnFace 128 = .ok (.bipush 9, 2) := by decide +kernel
theorem dX3_turnFace_130 : decode cX3_turnFace 130 = .ok (.iload 4, 2) := by decide +kernel
theorem dX3_turnFace_132 : decode cX3_turnFace 132 = .ok (.isub, 1) := by decide +kernel
theorem dX3_turnFace_133 : decode cX3_turnFace 133 = .ok (.iastore, 1) := by decide +kernel
theorem dX3_turnFace_134 : decode cX3_turnFace 134 = .ok (.iinc 3 1, 3) := by decide +kernel
theorem dX3_turnFace_137 : decode cX3_turnFace 137 = .ok (.goto (-98), 3) := by decide +kernel
theorem dX3_turnFace_140 : decode cX3_turnFace 140 = .ok (.iinc 2 1, 3) := by decide +kernel
theorem dX3_turnFace_143 : decode cX3_turnFace 143 = .ok (.goto (-112), 3) := by decide +kernel
theorem dX3_turnFace_146 : decode cX3_turnFace 146 = .ok (.aload_n 0, 1) := by decide +kernel
theorem dX3_turnFace_147 : decode cX3_turnFace 147 = .ok (.getfield 34, 3) := by decide +kernel
theorem dX3_turnFace_150 : decode cX3_turnFace 150 = .ok (.invokevirtual 152, 3) := by decide +kernel
theorem dX3_turnFace_153 : decode cX3_turnFace 153 = .ok (.ireturn, 1) := by decide +kernel
theorem dX3_append_0 : decode cX3_append 0 = .ok (.iload_n 1, 1) := by decide +kernel
theorem dX3_append_1 : decode cX3_append 1 = .ok (.bipush 33, 2) := by decide +kernel
theorem dX3_append_3 : decode cX3_append 3 = .ok (.bipush 126, 2) := by decide +kernel
theorem dX3_append_5 : decode cX3_append 5 = .ok (.invokestatic 72, 3) := by decide +kernel
theorem dX3_append_8 : decode cX3_append 8 = .ok (.aload_n 0, 1) := by decide +kernel
theorem dX3_append_9 : decode cX3_append 9 = .ok (.getfield 16, 3) := by decide +kernel
theorem dX3_append_12 : decode cX3_append 12 = .ok (.getfield 155, 3) := by decide +kernel
theorem dX3_append_15 : decode cX3_append 15 = .ok (.bipush 60, 2) := by decide +kernel
theorem dX3_append_17 : decode cX3_append 17 = .ok (.if_icmp .lt 13, 3) := by decide +kernel
theorem dX3_append_20 : decode cX3_append 20 = .ok (.new 82, 3) := by decide +kernel
theorem dX3_append_23 : decode cX3_append 23 = .ok (.dup, 1) := by decide +kernel
theorem dX3_append_24 : decode cX3_append 24 = .ok (.ldc 158, 2) := by decide +kernel
theorem dX3_append_26 : decode cX3_append 26 = .ok (.invokespecial 86, 3) := by decide +kernel
theorem dX3_append_29 : decode cX3_append 29 = .ok (.athrow, 1) := by decide +kernel
theorem dX3_append_30 : decode cX3_append 30 = .ok (.aload_n 0, 1) := by decide +kernel
theorem dX3_append_31 : decode cX3_append 31 = .ok (.getfield 16, 3) := by decide +kernel
theorem dX3_append_34 : decode cX3_append 34 = .ok (.iload_n 1, 1) := by decide +kernel
theorem dX3_append_35 : decode cX3_append 35 = .ok (.i2c, 1) := by decide +kernel
theorem dX3_append_36 : decode cX3_append 36 = .ok (.invokevirtual 160, 3) := by decide +kernel
theorem dX3_append_39 : decode cX3_append 39 = .ok (.aload_n 0, 1) := by decide +kernel
theorem dX3_append_40 : decode cX3_append 40 = .ok (.getfield 16, 3) := by decide +kernel
theorem dX3_append_43 : decode cX3_append 43 = .ok (.getfield 155, 3) := by decide +kernel
theorem dX3_append_46 : decode cX3_append 46 = .ok (.ireturn, 1) := by decide +kernel
theorem dX3_clearBuffer_0 : decode cX3_clearBuffer 0 = .ok (.aload_n 0, 1) := by decide +kernel
theorem dX3_clearBuffer_1 : decode cX3_clearBuffer 1 = .ok (.getfield 16, 3) := by decide +kernel
theorem dX3_clearBuffer_4 : decode cX3_clearBuffer 4 = .ok (.getfield 155, 3) := by decide +kernel
theorem dX3_clearBuffer_7 : decode cX3_clearBuffer 7 = .ok (.istore_n 1, 1) := by decide +kernel
theorem dX3_clearBuffer_8 : decode cX3_clearBuffer 8 = .ok (.aload_n 0, 1) := by decide +kernel
theorem dX3_clearBuffer_9 : decode cX3_clearBuffer 9 = .ok (.getfield 16, 3) := by decide +kernel
theorem dX3_clearBuffer_12 : decode cX3_clearBuffer 12 = .ok (.iconst 0, 1) := by decide +kernel
theorem dX3_clearBuffer_13 : decode cX3_clearBuffer 13 = .ok (.putfield 155, 3) := by decide +kernel
theorem dX3_clearBuffer_16 : decode cX3_clearBuffer 16 = .ok (.iload_n 1, 1) := by decide +kernel
theorem dX3_clearBuffer_17 : decode cX3_clearBuffer 17 = .ok (.ireturn, 1) := by decide +kernel
theorem dX3_firstError_0 : decode cX3_firstError 0 = .ok (.aload_n 0, 1) := by decide +kernel
theorem dX3_firstError_1 : decode cX3_firstError 1 = .ok (.getfield 16, 3) := by decide +kernel
theorem dX3_firstError_4 : decode cX3_firstError 4 = .ok (.invokevirtual 164, 3) := by decide +kernel
theorem dX3_firstError_7 : decode cX3_firstError 7 = .ok (.ireturn, 1) := by decide +kernel
theorem dX3_load_0 : decode cX3_load 0 = .ok (.aload_n 0, 1) := by decide +kernel
theorem dX3_load_1 : decode cX3_load 1 = .ok (.getfield 16, 3) := by decide +kernel
theorem dX3_load_4 : decode cX3_load 4 = .ok (.invokevirtual 167, 3) := by decide +kernel
theorem dX3_load_7 : decode cX3_load 7 = .ok (.ifCond .ne 13, 3) := by decide +kernel
theorem dX3_load_10 : decode cX3_load 10 = .ok (.new 45, 3) := by decide +kernel
theorem dX3_load_13 : decode cX3_load 13 = .ok (.dup, 1) := by decide +kernel
theorem dX3_load_14 : decode cX3_load 14 = .ok (.ldc 171, 2) := by decide +kernel
theorem dX3_load_16 : decode cX3_load 16 = .ok (.invokespecial 49, 3) := by decide +kernel
theorem dX3_load_19 : decode cX3_load 19 = .ok (.athrow, 1) := by decide +kernel
theorem dX3_load_20 : decode cX3_load 20 = .ok (.aload_n 0, 1) := by decide +kernel
theorem dX3_load_21 : decode cX3_load 21 = .ok (.invokevirtual 52, 3) := by decide +kernel
theorem dX3_load_24 : decode cX3_load 24 = .ok (.aload_n 0, 1) := by decide +kernel
theorem dX3_load_25 : decode cX3_load 25 = .ok (.getfield 34, 3) := by decide +kernel
theorem dX3_load_28 : decode cX3_load 28 = .ok (.getfield 143, 3) := by decide +kernel
theorem dX3_load_31 : decode cX3_load 31 = .ok (.iconst 0, 1) := by decide +kernel
theorem dX3_load_32 : decode cX3_load 32 = .ok (.aload_n 0, 1) := by decide +kernel
theorem dX3_load_33 : decode cX3_load 33 = .ok (.getfield 9, 3) := by decide +kernel
theorem dX3_load_36 : decode cX3_load 36 = .ok (.iconst 0, 1) := by decide +kernel
theorem dX3_load_37 : decode cX3_load 37 = .ok (.sipush 144, 3) := by decide +kernel
theorem dX3_load_40 : decode cX3_load 40 = .ok (.invokestatic 146, 3) := by decide +kernel
theorem dX3_load_43 : decode cX3_load 43 = .ok (.aload_n 0, 1) := by decide +kernel
theorem dX3_load_44 : decode cX3_load 44 = .ok (.getfield 16, 3) := by decide +kernel
theorem dX3_load_47 : decode cX3_load 47 = .ok (.aload_n 0, 1) := by decide +kernel
theorem dX3_load_48 : decode cX3_load 48 = .ok (.getfield 34, 3) := by decide +kernel
theorem dX3_load_51 : decode cX3_load 51 = .ok (.getfield 143, 3) := by decide +kernel
theorem dX3_load_54 : decode cX3_load 54 = .ok (.invokevirtual 173, 3) := by decide +kernel
theorem dX3_load_57 : decode cX3_load 57 = .ok (.aload_n 0, 1) := by decide +kernel
theorem dX3_load_58 : decode cX3_load 58 = .ok (.getfield 16, 3) := by decide +kernel
theorem dX3_load_61 : decode cX3_load 61 = .ok (.iconst 0, 1) := by decide +kernel
theorem dX3_load_62 : decode cX3_load 62 = .ok (.putfield 155, 3) := by decide +kernel
theorem dX3_load_65 : decode cX3_load 65 = .ok (.iconst 0, 1) := by decide +kernel
theorem dX3_load_66 : decode cX3_load 66 = .ok (.istore_n 1, 1) := by decide +kernel
theorem dX3_load_67 : decode cX3_load 67 = .ok (.iconst 0, 1) := by decide +kernel
theorem dX3_load_68 : decode cX3_load 68 = .ok (.istore_n 2, 1) := by decide +kernel
theorem dX3_load_69 : decode cX3_load 69 = .ok (.iload_n 2, 1) := by decide +kernel
theorem dX3_load_70 : decode cX3_load 70 = .ok (.sipush 144, 3) := by decide +kernel
theorem dX3_load_73 : decode cX3_load 73 = .ok (.if_icmp .ge 30, 3) := by decide +kernel
theorem dX3_load_76 : decode cX3_load 76 = .ok (.aload_n 0, 1) := by decide +kernel
theorem dX3_load_77 : decode cX3_load 77 = .ok (.getfield 34, 3) := by decide +kernel
theorem dX3_load_80 : decode cX3_load 80 = .ok (.getfield 143, 3) := by decide +kernel
theorem dX3_load_83 : decode cX3_load 83 = .ok (.iload_n 2, 1) := by decide +kernel
theorem dX3_load_84 : decode cX3_load 84 = .ok (.iaload, 1) := by decide +kernel
theorem dX3_load_85 : decode cX3_load 85 = .ok (.aload_n 0, 1) := by decide +kernel
theorem dX3_load_86 : decode cX3_load 86 = .ok (.getfield 9, 3) := by decide +kernel
theorem dX3_load_89 : decode cX3_load 89 = .ok (.iload_n 2, 1) := by decide +kernel
theorem dX3_load_90 : decode cX3_load 90 = .ok (.iaload, 1) := by decide +kernel
theorem dX3_load_91 : decode cX3_load 91 = .ok (.if_icmp .eq 6, 3) := by decide +kernel
theorem dX3_load_94 : decode cX3_load 94 = .ok (.iinc 1 1, 3) := by decide +kernel
theorem dX3_load_97 : decode cX3_load 97 = .ok (.iinc 2 1, 3) := by decide +kernel
theorem dX3_load_100 : decode cX3_load 100 = .ok (.goto (-31), 3) := by decide +kernel
theorem dX3_load_103 : decode cX3_load 103 = .ok (.iload_n 1, 1) := by decide +kernel
theorem dX3_load_104 : decode cX3_load 104 = .ok (.ireturn, 1) := by decide +kernel
theorem dX3_keep_0 : decode cX3_keep 0 = .ok (.iload_n 1, 1) := by decide +kernel
theorem dX3_keep_1 : decode cX3_keep 1 = .ok (.iconst 0, 1) := by decide +kernel
theorem dX3_keep_2 : decode cX3_keep 2 = .ok (.iconst 1, 1) := by decide +kernel
theorem dX3_keep_3 : decode cX3_keep 3 = .ok (.invokestatic 72, 3) := by decide +kernel
theorem dX3_keep_6 : decode cX3_keep 6 = .ok (.aload_n 0, 1) := by decide +kernel
theorem dX3_keep_7 : decode cX3_keep 7 = .ok (.aload_n 0, 1) := by decide +kernel
theorem dX3_keep_8 : decode cX3_keep 8 = .ok (.getfield 22, 3) := by decide +kernel
theorem dX3_keep_11 : decode cX3_keep 11 = .ok (.iload_n 1, 1) := by decide +kernel
theorem dX3_keep_12 : decode cX3_keep 12 = .ok (.invokevirtual 177, 3) := by decide +kernel
theorem dX3_keep_15 : decode cX3_keep 15 = .ok (.aload_n 0, 1) := by decide +kernel
theorem dX3_keep_16 : decode cX3_keep 16 = .ok (.getfield 34, 3) := by decide +kernel
theorem dX3_keep_19 : decode cX3_keep 19 = .ok (.getfield 110, 3) := by decide +kernel
theorem dX3_keep_22 : decode cX3_keep 22 = .ok (.ireturn, 1) := by decide +kernel
theorem dX3_goBack_0 : decode cX3_goBack 0 = .ok (.iload_n 1, 1) := by decide +kernel
theorem dX3_goBack_1 : decode cX3_goBack 1 = .ok (.iconst 0, 1) := by decide +kernel
theorem dX3_goBack_2 : decode cX3_goBack 2 = .ok (.iconst 1, 1) := by decide +kernel
theorem dX3_goBack_3 : decode cX3_goBack 3 = .ok (.invokestatic 72, 3) := by decide +kernel
theorem dX3_goBack_6 : decode cX3_goBack 6 = .ok (.aload_n 0, 1) := by decide +kernel
theorem dX3_goBack_7 : decode cX3_goBack 7 = .ok (.getfield 22, 3) := by decide +kernel
theorem dX3_goBack_10 : decode cX3_goBack 10 = .ok (.iload_n 1, 1) := by decide +kernel
theorem dX3_goBack_11 : decode cX3_goBack 11 = .ok (.aaload, 1) := by decide +kernel
theorem dX3_goBack_12 : decode cX3_goBack 12 = .ok (.astore_n 2, 1) := by decide +kernel
theorem dX3_goBack_13 : decode cX3_goBack 13 = .ok (.aload_n 2, 1) := by decide +kernel
theorem dX3_goBack_14 : decode cX3_goBack 14 = .ok (.ifnonnull 13, 3) := by decide +kernel
theorem dX3_goBack_17 : decode cX3_goBack 17 = .ok (.new 82, 3) := by decide +kernel
theorem dX3_goBack_20 : decode cX3_goBack 20 = .ok (.dup, 1) := by decide +kernel
theorem dX3_goBack_21 : decode cX3_goBack 21 = .ok (.ldc 181, 2) := by decide +kernel
theorem dX3_goBack_23 : decode cX3_goBack 23 = .ok (.invokespecial 86, 3) := by decide +kernel
theorem dX3_goBack_26 : decode cX3_goBack 26 = .ok (.athrow, 1) := by decide +kernel
theorem dX3_goBack_27 : decode cX3_goBack 27 = .ok (.aload_n 0, 1) := by decide +kernel
theorem dX3_goBack_28 : decode cX3_goBack 28 = .ok (.invokevirtual 52, 3) := by decide +kernel
theorem dX3_goBack_31 : decode cX3_goBack 31 = .ok (.aload_n 0, 1) := by decide +kernel
theorem dX3_goBack_32 : decode cX3_goBack 32 = .ok (.getfield 34, 3) := by decide +kernel
theorem dX3_goBack_35 : decode cX3_goBack 35 = .ok (.aload_n 2, 1) := by decide +kernel
theorem dX3_goBack_36 : decode cX3_goBack 36 = .ok (.invokevirtual 183, 3) := by decide +kernel
theorem dX3_goBack_39 : decode cX3_goBack 39 = .ok (.aload_n 0, 1) := by decide +kernel
theorem dX3_goBack_40 : decode cX3_goBack 40 = .ok (.getfield 34, 3) := by decide +kernel
theorem dX3_goBack_43 : decode cX3_goBack 43 = .ok (.getfield 110, 3) := by decide +kernel
theorem dX3_goBack_46 : decode cX3_goBack 46 = .ok (.ireturn, 1) := by decide +kernel
theorem dX3_undo_0 : decode cX3_undo 0 = .ok (.aload_n 0, 1) := by decide +kernel
theorem dX3_undo_1 : decode cX3_undo 1 = .ok (.getfield 187, 3) := by decide +kernel
theorem dX3_undo_4 : decode cX3_undo 4 = .ok (.ifCond .le 17, 3) := by decide +kernel
theorem dX3_undo_7 : decode cX3_undo 7 = .ok (.aload_n 0, 1) := by decide +kernel
theorem dX3_undo_8 : decode cX3_undo 8 = .ok (.getfield 26, 3) := by decide +kernel
theorem dX3_undo_11 : decode cX3_undo 11 = .ok (.aload_n 0, 1) := by decide +kernel
theorem dX3_undo_12 : decode cX3_undo 12 = .ok (.getfield 187, 3) := by decide +kernel
theorem dX3_undo_15 : decode cX3_undo 15 = .ok (.iconst 1, 1) := by decide +kernel
theorem dX3_undo_16 : decode cX3_undo 16 = .ok (.isub, 1) := by decide +kernel
theorem dX3_undo_17 : decode cX3_undo 17 = .ok (.aaload, 1) := by decide +kernel
theorem dX3_undo_18 : decode cX3_undo 18 = .ok (.goto 4, 3) := by decide +kernel
theorem dX3_undo_21 : decode cX3_undo 21 = .ok (.aconst_null, 1) := by decide +kernel
theorem dX3_undo_22 : decode cX3_undo 22 = .ok (.astore_n 1, 1) := by decide +kernel
theorem dX3_undo_23 : decode cX3_undo 23 = .ok (.aload_n 1, 1) := by decide +kernel
theorem dX3_undo_24 : decode cX3_undo 24 = .ok (.ifnonnull 13, 3) := by decide +kernel
theorem dX3_undo_27 : decode cX3_undo 27 = .ok (.new 82, 3) := by decide +kernel
theorem dX3_undo_30 : decode cX3_undo 30 = .ok (.dup, 1) := by decide +kernel
theorem dX3_undo_31 : decode cX3_undo 31 = .ok (.ldc 190, 2) := by decide +kernel
theorem dX3_undo_33 : decode cX3_undo 33 = .ok (.invokespecial 86, 3) := by decide +kernel
theorem dX3_undo_36 : decode cX3_undo 36 = .ok (.athrow, 1) := by decide +kernel
theorem dX3_undo_37 : decode cX3_undo 37 = .ok (.aload_n 0, 1) := by decide +kernel
theorem dX3_undo_38 : decode cX3_undo 38 = .ok (.getfield 34, 3) := by decide +kernel
theorem dX3_undo_41 : decode cX3_undo 41 = .ok (.aload_n 1, 1) := by decide +kernel
theorem dX3_undo_42 : decode cX3_undo 42 = .ok (.invokevirtual 183, 3) := by decide +kernel
theorem dX3_undo_45 : decode cX3_undo 45 = .ok (.aload_n 0, 1) := by decide +kernel
theorem dX3_undo_46 : decode cX3_undo 46 = .ok (.dup, 1) := by decide +kernel
theorem dX3_undo_47 : decode cX3_undo 47 = .ok (.getfield 187, 3) := by decide +kernel
theorem dX3_undo_50 : decode cX3_undo 50 = .ok (.iconst 1, 1) := by decide +kernel
theorem dX3_undo_51 : decode cX3_undo 51 = .ok (.isub, 1) := by decide +kernel
theorem dX3_undo_52 : decode cX3_undo 52 = .ok (.putfield 187, 3) := by decide +kernel
theorem dX3_undo_55 : decode cX3_undo 55 = .ok (.aload_n 0, 1) := by decide +kernel
theorem dX3_undo_56 : decode cX3_undo 56 = .ok (.getfield 187, 3) := by decide +kernel
theorem dX3_undo_59 : decode cX3_undo 59 = .ok (.ireturn, 1) := by decide +kernel
theorem dX3_nailOf_0 : decode cX3_nailOf 0 = .ok (.aload_n 0, 1) := by decide +kernel
theorem dX3_nailOf_1 : decode cX3_nailOf 1 = .ok (.iload_n 1, 1) := by decide +kernel
theorem dX3_nailOf_2 : decode cX3_nailOf 2 = .ok (.invokevirtual 107, 3) := by decide +kernel
theorem dX3_nailOf_5 : decode cX3_nailOf 5 = .ok (.iload_n 2, 1) := by decide +kernel
theorem dX3_nailOf_6 : decode cX3_nailOf 6 = .ok (.iconst 0, 1) := by decide +kernel
theorem dX3_nailOf_7 : decode cX3_nailOf 7 = .ok (.iconst 3, 1) := by decide +kernel
theorem dX3_nailOf_8 : decode cX3_nailOf 8 = .ok (.invokestatic 72, 3) := by decide +kernel
theorem dX3_nailOf_11 : decode cX3_nailOf 11 = .ok (.iload_n 2, 1) := by decide +kernel
theorem dX3_nailOf_12 : decode cX3_nailOf 12 = .ok (.tableswitch 63 0 2 #[28, 41, 54], 28) := by decide +kernel
theorem dX3_nailOf_40 : decode cX3_nailOf 40 = .ok (.iload_n 1, 1) := by decide +kernel
theorem dX3_nailOf_41 : decode cX3_nailOf 41 = .ok (.aload_n 0, 1) := by decide +kernel
theorem dX3_nailOf_42 : decode cX3_nailOf 42 = .ok (.getfield 34, 3) := by decide +kernel
theorem dX3_nailOf_45 : decode cX3_nailOf 45 = .ok (.getfield 62, 3) := by decide +kernel
theorem dX3_nailOf_48 : decode cX3_nailOf 48 = .ok (.imul, 1) := by decide +kernel
theorem dX3_nailOf_49 : decode cX3_nailOf 49 = .ok (.invokestatic 192, 3) := by decide +kernel
theorem dX3_nailOf_52 : decode cX3_nailOf 52 = .ok (.ireturn, 1) := by decide +kernel
theorem dX3_nailOf_53 : decode cX3_nailOf 53 = .ok (.iload_n 1, 1) := by decide +kernel
theorem dX3_nailOf_54 : decode cX3_nailOf 54 = .ok (.aload_n 0, 1) := by decide +kernel
theorem dX3_nailOf_55 : decode cX3_nailOf 55 = .ok (.getfield 34, 3) := by decide +kernel
theorem dX3_nailOf_58 : decode cX3_nailOf 58 = .ok (.getfield 62, 3) := by decide +kernel
theorem dX3_nailOf_61 : decode cX3_nailOf 61 = .ok (.imul, 1) := by decide +kernel
theorem dX3_nailOf_62 : decode cX3_nailOf 62 = .ok (.invokestatic 195, 3) := by decide +kernel
theorem dX3_nailOf_65 : decode cX3_nailOf 65 = .ok (.ireturn, 1) := by decide +kernel
theorem dX3_nailOf_66 : decode cX3_nailOf 66 = .ok (.aload_n 0, 1) := by decide +kernel
theorem dX3_nailOf_67 : decode cX3_nailOf 67 = .ok (.getfield 34, 3) := by decide +kernel
theorem dX3_nailOf_70 : decode cX3_nailOf 70 = .ok (.iload_n 1, 1) := by decide +kernel
theorem dX3_nailOf_71 : decode cX3_nailOf 71 = .ok (.invokevirtual 198, 3) := by decide +kernel
theorem dX3_nailOf_74 : decode cX3_nailOf 74 = .ok (.ireturn, 1) := by decide +kernel
theorem dX3_nailOf_75 : decode cX3_nailOf 75 = .ok (.iload_n 1, 1) := by decide +kernel
theorem dX3_nailOf_76 : decode cX3_nailOf 76 = .ok (.aload_n 0, 1) := by decide +kernel
theorem dX3_nailOf_77 : decode cX3_nailOf 77 = .ok (.getfield 34, 3) := by decide +kernel
theorem dX3_nailOf_80 : decode cX3_nailOf 80 = .ok (.getfield 65, 3) := by decide +kernel
theorem dX3_nailOf_83 : decode cX3_nailOf 83 = .ok (.if_icmp .ne 7, 3) := by decide +kernel
theorem dX3_nailOf_86 : decode cX3_nailOf 86 = .ok (.iconst 1, 1) := by decide +kernel
theorem dX3_nailOf_87 : decode cX3_nailOf 87 = .ok (.goto 4, 3) := by decide +kernel
theorem dX3_nailOf_90 : decode cX3_nailOf 90 = .ok (.iconst 0, 1) := by decide +kernel
theorem dX3_nailOf_91 : decode cX3_nailOf 91 = .ok (.ireturn, 1) := by decide +kernel
theorem dX3_spoolOf_0 : decode cX3_spoolOf 0 = .ok (.iload_n 1, 1) := by decide +kernel
theorem dX3_spoolOf_1 : decode cX3_spoolOf 1 = .ok (.invokestatic 68, 3) := by decide +kernel
theorem dX3_spoolOf_4 : decode cX3_spoolOf 4 = .ok (.iload_n 2, 1) := by decide +kernel
theorem dX3_spoolOf_5 : decode cX3_spoolOf 5 = .ok (.iconst 0, 1) := by decide +kernel
theorem dX3_spoolOf_6 : decode cX3_spoolOf 6 = .ok (.iconst 4, 1) := by decide +kernel
theorem dX3_spoolOf_7 : decode cX3_spoolOf 7 = .ok (.invokestatic 72, 3) := by decide +kernel
theorem dX3_spoolOf_10 : decode cX3_spoolOf 10 = .ok (.iload_n 2, 1) := by decide +kernel
theorem dX3_spoolOf_11 : decode cX3_spoolOf 11 = .ok (.tableswitch 67 0 3 #[29, 39, 49, 58], 29) := by decide +kernel
theorem dX3_spoolOf_40 : decode cX3_spoolOf 40 = .ok (.aload_n 0, 1) := by decide +kernel
theorem dX3_spoolOf_41 : decode cX3_spoolOf 41 = .ok (.getfield 34, 3) := by decide +kernel
theorem dX3_spoolOf_44 : decode cX3_spoolOf 44 = .ok (.getfield 90, 3) := by decide +kernel
theorem dX3_spoolOf_47 : decode cX3_spoolOf 47 = .ok (.iload_n 1, 1) := by decide +kernel
theorem dX3_spoolOf_48 : decode cX3_spoolOf 48 = .ok (.iaload, 1) := by decide +kernel
theorem dX3_spoolOf_49 : decode cX3_spoolOf 49 = .ok (.ireturn, 1) := by decide +kernel
theorem dX3_spoolOf_50 : decode cX3_spoolOf 50 = .ok (.aload_n 0, 1) := by decide +kernel
theorem dX3_spoolOf_51 : decode cX3_spoolOf 51 = .ok (.getfield 34, 3) := by decide +kernel
theorem dX3_spoolOf_54 : decode cX3_spoolOf 54 = .ok (.getfield 87, 3) := by decide +kernel
theorem dX3_spoolOf_57 : decode cX3_spoolOf 57 = .ok (.iload_n 1, 1) := by decide +kernel
theorem dX3_spoolOf_58 : decode cX3_spoolOf 58 = .ok (.iaload, 1) := by decide +kernel
theorem dX3_spoolOf_59 : decode cX3_spoolOf 59 = .ok (.ireturn, 1) := by decide +kernel
theorem dX3_spoolOf_60 : decode cX3_spoolOf 60 = .ok (.aload_n 0, 1) := by decide +kernel
theorem dX3_spoolOf_61 : decode cX3_spoolOf 61 = .ok (.getfield 34, 3) := by decide +kernel
theorem dX3_spoolOf_64 : decode cX3_spoolOf 64 = .ok (.iload_n 1, 1) := by decide +kernel
theorem dX3_spoolOf_65 : decode cX3_spoolOf 65 = .ok (.invokevirtual 201, 3) := by decide +kernel
theorem dX3_spoolOf_68 : decode cX3_spoolOf 68 = .ok (.ireturn, 1) := by decide +kernel
theorem dX3_spoolOf_69 : decode cX3_spoolOf 69 = .ok (.aload_n 0, 1) := by decide +kernel
theorem dX3_spoolOf_70 : decode cX3_spoolOf 70 = .ok (.getfield 34, 3) := by decide +kernel
theorem dX3_spoolOf_73 : decode cX3_spoolOf 73 = .ok (.iload_n 1, 1) := by decide +kernel
theorem dX3_spoolOf_74 : decode cX3_spoolOf 74 = .ok (.invokevirtual 79, 3) := by decide +kernel
theorem dX3_spoolOf_77 : decode cX3_spoolOf 77 = .ok (.ireturn, 1) := by decide +kernel
theorem dX3_spoolOf_78 : decode cX3_spoolOf 78 = .ok (.iload_n 1, 1) := by decide +kernel
theorem dX3_spoolOf_79 : decode cX3_spoolOf 79 = .ok (.aload_n 0, 1) := by decide +kernel
theorem dX3_spoolOf_80 : decode cX3_spoolOf 80 = .ok (.getfield 34, 3) := by decide +kernel
theorem dX3_spoolOf_83 : decode cX3_spoolOf 83 = .ok (.getfield 76, 3) := by decide +kernel
theorem dX3_spoolOf_86 : decode cX3_spoolOf 86 = .ok (.if_icmp .ne 7, 3) := by decide +kernel
theorem dX3_spoolOf_89 : decode cX3_spoolOf 89 = .ok (.iconst 1, 1) := by decide +kernel
theorem dX3_spoolOf_90 : decode cX3_spoolOf 90 = .ok (.goto 4, 3) := by decide +kernel
theorem dX3_spoolOf_93 : decode cX3_spoolOf 93 = .ok (.iconst 0, 1) := by decide +kernel
theorem dX3_spoolOf_94 : decode cX3_spoolOf 94 = .ok (.ireturn, 1) := by decide +kernel
theorem dX3_chord_0 : decode cX3_chord 0 = .ok (.aload_n 0, 1) := by decide +kernel
theorem dX3_chord_1 : decode cX3_chord 1 = .ok (.iload_n 1, 1) := by decide +kernel
theorem dX3_chord_2 : decode cX3_chord 2 = .ok (.invokevirtual 107, 3) := by decide +kernel
theorem dX3_chord_5 : decode cX3_chord 5 = .ok (.aload_n 0, 1) := by decide +kernel
theorem dX3_chord_6 : decode cX3_chord 6 = .ok (.iload_n 2, 1) := by decide +kernel
theorem dX3_chord_7 : decode cX3_chord 7 = .ok (.invokevirtual 107, 3) := by decide +kernel
theorem dX3_chord_10 : decode cX3_chord 10 = .ok (.iload_n 3, 1) := by decide +kernel
theorem dX3_chord_11 : decode cX3_chord 11 = .ok (.iconst 0, 1) := by decide +kernel
theorem dX3_chord_12 : decode cX3_chord 12 = .ok (.iconst 2, 1) := by decide +kernel
theorem dX3_chord_13 : decode cX3_chord 13 = .ok (.invokestatic 72, 3) := by decide +kernel
theorem dX3_chord_16 : decode cX3_chord 16 = .ok (.iload_n 1, 1) := by decide +kernel
theorem dX3_chord_17 : decode cX3_chord 17 = .ok (.iload_n 2, 1) := by decide +kernel
theorem dX3_chord_18 : decode cX3_chord 18 = .ok (.if_icmp .ne 5, 3) := by decide +kernel
theorem dX3_chord_21 : decode cX3_chord 21 = .ok (.iconst (-1), 1) := by decide +kernel
theorem dX3_chord_22 : decode cX3_chord 22 = .ok (.ireturn, 1) := by decide +kernel
theorem dX3_chord_23 : decode cX3_chord 23 = .ok (.iload_n 3, 1) := by decide +kernel
theorem dX3_chord_24 : decode cX3_chord 24 = .ok (.lookupswitch 55 #[(0, 28), (1, 41)], 28) := by decide +kernel
theorem dX3_chord_52 : decode cX3_chord 52 = .ok (.aload_n 0, 1) := by decide +kernel
theorem dX3_chord_53 : decode cX3_chord 53 = .ok (.getfield 34, 3) := by decide +kernel
theorem dX3_chord_56 : decode cX3_chord 56 = .ok (.iload_n 1, 1) := by decide +kernel
theorem dX3_chord_57 : decode cX3_chord 57 = .ok (.iload_n 2, 1) := by decide +kernel
theorem dX3_chord_58 : decode cX3_chord 58 = .ok (.invokevirtual 204, 3) := by decide +kernel
theorem dX3_chord_61 : decode cX3_chord 61 = .ok (.getfield 208, 3) := by decide +kernel
theorem dX3_chord_64 : decode cX3_chord 64 = .ok (.ireturn, 1) := by decide +kernel
theorem dX3_chord_65 : decode cX3_chord 65 = .ok (.aload_n 0, 1) := by decide +kernel
theorem dX3_chord_66 : decode cX3_chord 66 = .ok (.getfield 34, 3) := by decide +kernel
theorem dX3_chord_69 : decode cX3_chord 69 = .ok (.iload_n 1, 1) := by decide +kernel
theorem dX3_chord_70 : decode cX3_chord 70 = .ok (.iload_n 2, 1) := by decide +kernel
theorem dX3_chord_71 : decode cX3_chord 71 = .ok (.invokevirtual 204, 3) := by decide +kernel
theorem dX3_chord_74 : decode cX3_chord 74 = .ok (.getfield 209, 3) := by decide +kernel
theorem dX3_chord_77 : decode cX3_chord 77 = .ok (.arraylength, 1) := by decide +kernel
theorem dX3_chord_78 : decode cX3_chord 78 = .ok (.ireturn, 1) := by decide +kernel
theorem dX3_chord_79 : decode cX3_chord 79 = .ok (.aload_n 0, 1) := by decide +kernel
theorem dX3_chord_80 : decode cX3_chord 80 = .ok (.getfield 34, 3) := by decide +kernel
theorem dX3_chord_83 : decode cX3_chord 83 = .ok (.iload_n 1, 1) := by decide +kernel
theorem dX3_chord_84 : decode cX3_chord 84 = .ok (.iload_n 2, 1) := by decide +kernel
theorem dX3_chord_85 : decode cX3_chord 85 = .ok (.invokevirtual 212, 3) := by decide +kernel
theorem dX3_chord_88 : decode cX3_chord 88 = .ok (.ireturn, 1) := by decide +kernel
theorem dX3_wound_0 : decode cX3_wound 0 = .ok (.iload_n 1, 1) := by decide +kernel
theorem dX3_wound_1 : decode cX3_wound 1 = .ok (.ifCond .ge 13, 3) := by decide +kernel
theorem dX3_wound_4 : decode cX3_wound 4 = .ok (.new 45, 3) := by decide +kernel
theorem dX3_wound_7 : decode cX3_wound 7 = .ok (.dup, 1) := by decide +kernel
theorem dX3_wound_8 : decode cX3_wound 8 = .ok (.ldc 216, 2) := by decide +kernel
theorem dX3_wound_10 : decode cX3_wound 10 = .ok (.invokespecial 49, 3) := by decide +kernel
theorem dX3_wound_13 : decode cX3_wound 13 = .ok (.athrow, 1) := by decide +kernel
theorem dX3_wound_14 : decode cX3_wound 14 = .ok (.iload_n 2, 1) := by decide +kernel
theorem dX3_wound_15 : decode cX3_wound 15 = .ok (.iconst 0, 1) := by decide +kernel
theorem dX3_wound_16 : decode cX3_wound 16 = .ok (.iconst 2, 1) := by decide +kernel
theorem dX3_wound_17 : decode cX3_wound 17 = .ok (.invokestatic 72, 3) := by decide +kernel
theorem dX3_wound_20 : decode cX3_wound 20 = .ok (.iload_n 1, 1) := by decide +kernel
theorem dX3_wound_21 : decode cX3_wound 21 = .ok (.aload_n 0, 1) := by decide +kernel
theorem dX3_wound_22 : decode cX3_wound 22 = .ok (.getfield 34, 3) := by decide +kernel
theorem dX3_wound_25 : decode cX3_wound 25 = .ok (.getfield 110, 3) := by decide +kernel
theorem dX3_wound_28 : decode cX3_wound 28 = .ok (.if_icmp .lt 5, 3) := by decide +kernel
theorem dX3_wound_31 : decode cX3_wound 31 = .ok (.iconst (-1), 1) := by decide +kernel
theorem dX3_wound_32 : decode cX3_wound 32 = .ok (.ireturn, 1) := by decide +kernel
theorem dX3_wound_33 : decode cX3_wound 33 = .ok (.aload_n 0, 1) := by decide +kernel
theorem dX3_wound_34 : decode cX3_wound 34 = .ok (.getfield 34, 3) := by decide +kernel
theorem dX3_wound_37 : decode cX3_wound 37 = .ok (.getfield 110, 3) := by decide +kernel
theorem dX3_wound_40 : decode cX3_wound 40 = .ok (.iconst 1, 1) := by decide +kernel
theorem dX3_wound_41 : decode cX3_wound 41 = .ok (.isub, 1) := by decide +kernel
theorem dX3_wound_42 : decode cX3_wound 42 = .ok (.iload_n 1, 1) := by decide +kernel
theorem dX3_wound_43 : decode cX3_wound 43 = .ok (.isub, 1) := by decide +kernel
theorem dX3_wound_44 : decode cX3_wound 44 = .ok (.istore_n 3, 1) := by decide +kernel
theorem dX3_wound_45 : decode cX3_wound 45 = .ok (.iload_n 2, 1) := by decide +kernel
theorem dX3_wound_46 : decode cX3_wound 46 = .ok (.lookupswitch 46 #[(0, 26), (1, 36)], 26) := by decide +kernel
theorem dX3_wound_72 : decode cX3_wound 72 = .ok (.aload_n 0, 1) := by decide +kernel
theorem dX3_wound_73 : decode cX3_wound 73 = .ok (.getfield 34, 3) := by decide +kernel
theorem dX3_wound_76 : decode cX3_wound 76 = .ok (.getfield 218, 3) := by decide +kernel
theorem dX3_wound_79 : decode cX3_wound 79 = .ok (.iload_n 3, 1) := by decide +kernel
theorem dX3_wound_80 : decode cX3_wound 80 = .ok (.iaload, 1) := by decide +kernel
theorem dX3_wound_81 : decode cX3_wound 81 = .ok (.ireturn, 1) := by decide +kernel
theorem dX3_wound_82 : decode cX3_wound 82 = .ok (.aload_n 0, 1) := by decide +kernel
theorem dX3_wound_83 : decode cX3_wound 83 = .ok (.getfield 34, 3) := by decide +kernel
theorem dX3_wound_86 : decode cX3_wound 86 = .ok (.getfield 221, 3) := by decide +kernel
theorem dX3_wound_89 : decode cX3_wound 89 = .ok (.iload_n 3, 1) := by decide +kernel
theorem dX3_wound_90 : decode cX3_wound 90 = .ok (.iaload, 1) := by decide +kernel
theorem dX3_wound_91 : decode cX3_wound 91 = .ok (.ireturn, 1) := by decide +kernel
theorem dX3_wound_92 : decode cX3_wound 92 = .ok (.aload_n 0, 1) := by decide +kernel
theorem dX3_wound_93 : decode cX3_wound 93 = .ok (.getfield 34, 3) := by decide +kernel
theorem dX3_wound_96 : decode cX3_wound 96 = .ok (.getfield 224, 3) := by decide +kernel
theorem dX3_wound_99 : decode cX3_wound 99 = .ok (.iload_n 3, 1) := by decide +kernel
theorem dX3_wound_100 : decode cX3_wound 100 = .ok (.iaload, 1) := by decide +kernel
theorem dX3_wound_101 : decode cX3_wound 101 = .ok (.ireturn, 1) := by decide +kernel
theorem dX3_square_0 : decode cX3_square 0 = .ok (.iload_n 1, 1) := by decide +kernel
theorem dX3_square_1 : decode cX3_square 1 = .ok (.iload_n 2, 1) := by decide +kernel
theorem dX3_square_2 : decode cX3_square 2 = .ok (.invokestatic 139, 3) := by decide +kernel
theorem dX3_square_5 : decode cX3_square 5 = .ok (.iload_n 3, 1) := by decide +kernel
theorem dX3_square_6 : decode cX3_square 6 = .ok (.iconst 0, 1) := by decide +kernel
theorem dX3_square_7 : decode cX3_square 7 = .ok (.iconst 3, 1) := by decide +kernel
theorem dX3_square_8 : decode cX3_square 8 = .ok (.invokestatic 72, 3) := by decide +kernel
theorem dX3_square_11 : decode cX3_square 11 = .ok (.iload_n 2, 1) := by decide +kernel
theorem dX3_square_12 : decode cX3_square 12 = .ok (.bipush 12, 2) := by decide +kernel
theorem dX3_square_14 : decode cX3_square 14 = .ok (.imul, 1) := by decide +kernel
theorem dX3_square_15 : decode cX3_square 15 = .ok (.iload_n 1, 1) := by decide +kernel
theorem dX3_square_16 : decode cX3_square 16 = .ok (.iadd, 1) := by decide +kernel
theorem dX3_square_17 : decode cX3_square 17 = .ok (.istore 4, 2) := by decide +kernel
theorem dX3_square_19 : decode cX3_square 19 = .ok (.iload_n 3, 1) := by decide +kernel
theorem dX3_square_20 : decode cX3_square 20 = .ok (.tableswitch 64 0 2 #[28, 39, 50], 28) := by decide +kernel
theorem dX3_square_48 : decode cX3_square 48 = .ok (.aload_n 0, 1) := by decide +kernel
theorem dX3_square_49 : decode cX3_square 49 = .ok (.getfield 34, 3) := by decide +kernel
theorem dX3_square_52 : decode cX3_square 52 = .ok (.getfield 143, 3) := by decide +kernel
theorem dX3_square_55 : decode cX3_square 55 = .ok (.iload 4, 2) := by decide +kernel
theorem dX3_square_57 : decode cX3_square 57 = .ok (.iaload, 1) := by decide +kernel
theorem dX3_square_58 : decode cX3_square 58 = .ok (.ireturn, 1) := by decide +kernel
theorem dX3_square_59 : decode cX3_square 59 = .ok (.aload_n 0, 1) := by decide +kernel
theorem dX3_square_60 : decode cX3_square 60 = .ok (.getfield 34, 3) := by decide +kernel
theorem dX3_square_63 : decode cX3_square 63 = .ok (.getfield 227, 3) := by decide +kernel
theorem dX3_square_66 : decode cX3_square 66 = .ok (.iload 4, 2) := by decide +kernel
theorem dX3_square_68 : decode cX3_square 68 = .ok (.iaload, 1) := by decide +kernel
theorem dX3_square_69 : decode cX3_square 69 = .ok (.ireturn, 1) := by decide +kernel
theorem dX3_square_70 : decode cX3_square 70 = .ok (.aload_n 0, 1) := by decide +kernel
theorem dX3_square_71 : decode cX3_square 71 = .ok (.getfield 34, 3) := by decide +kernel
theorem dX3_square_74 : decode cX3_square 74 = .ok (.iload 4, 2) := by decide +kernel
theorem dX3_square_76 : decode cX3_square 76 = .ok (.invokevirtual 230, 3) := by decide +kernel
theorem dX3_square_79 : decode cX3_square 79 = .ok (.sipush 10000, 3) := by decide +kernel
theorem dX3_square_82 : decode cX3_square 82 = .ok (.iadd, 1) := by decide +kernel
theorem dX3_square_83 : decode cX3_square 83 = .ok (.ireturn, 1) := by decide +kernel
theorem dX3_square_84 : decode cX3_square 84 = .ok (.aload_n 0, 1) := by decide +kernel
theorem dX3_square_85 : decode cX3_square 85 = .ok (.getfield 34, 3) := by decide +kernel
theorem dX3_square_88 : decode cX3_square 88 = .ok (.getfield 233, 3) := by decide +kernel
theorem dX3_square_91 : decode cX3_square 91 = .ok (.iload 4, 2) := by decide +kernel
theorem dX3_square_93 : decode cX3_square 93 = .ok (.iaload, 1) := by decide +kernel
theorem dX3_square_94 : decode cX3_square 94 = .ok (.ireturn, 1) := by decide +kernel
theorem dX3_count_0 : decode cX3_count 0 = .ok (.iload_n 1, 1) := by decide +kernel
theorem dX3_count_1 : decode cX3_count 1 = .ok (.iconst 0, 1) := by decide +kernel
theorem dX3_count_2 : decode cX3_count 2 = .ok (.bipush 12, 2) := by decide +kernel
theorem dX3_count_4 : decode cX3_count 4 = .ok (.invokestatic 72, 3) := by decide +kernel
theorem dX3_count_7 : decode cX3_count 7 = .ok (.iload_n 1, 1) := by decide +kernel
theorem dX3_count_8 : decode cX3_count 8 = .ok (.tableswitch 185 0 11 #[64, 72, 80, 88, 96, 104, 112, 120, 128, 140, 149, 158], 64) := by decide +kernel
theorem dX3_count_72 : decode cX3_count 72 = .ok (.aload_n 0, 1) := by decide +kernel
theorem dX3_count_73 : decode cX3_count 73 = .ok (.getfield 34, 3) := by decide +kernel
theorem dX3_count_76 : decode cX3_count 76 = .ok (.getfield 55, 3) := by decide +kernel
theorem dX3_count_79 : decode cX3_count 79 = .ok (.ireturn, 1) := by decide +kernel
theorem dX3_count_80 : decode cX3_count 80 = .ok (.aload_n 0, 1) := by decide +kernel
theorem dX3_count_81 : decode cX3_count 81 = .ok (.getfield 34, 3) := by decide +kernel
theorem dX3_count_84 : decode cX3_count 84 = .ok (.getfield 65, 3) := by decide +kernel
theorem dX3_count_87 : decode cX3_count 87 = .ok (.ireturn, 1) := by decide +kernel
theorem dX3_count_88 : decode cX3_count 88 = .ok (.aload_n 0, 1) := by decide +kernel
theorem dX3_count_89 : decode cX3_count 89 = .ok (.getfield 34, 3) := by decide +kernel
theorem dX3_count_92 : decode cX3_count 92 = .ok (.getfield 76, 3) := by decide +kernel
theorem dX3_count_95 : decode cX3_count 95 = .ok (.ireturn, 1) := by decide +kernel
theorem dX3_count_96 : decode cX3_count 96 = .ok (.aload_n 0, 1) := by decide +kernel
theorem dX3_count_97 : decode cX3_count 97 = .ok (.getfield 34, 3) := by decide +kernel
theorem dX3_count_100 : decode cX3_count 100 = .ok (.getfield 110, 3) := by decide +kernel
theorem dX3_count_103 : decode cX3_count 103 = .ok (.ireturn, 1) := by decide +kernel
theorem dX3_count_104 : decode cX3_count 104 = .ok (.aload_n 0, 1) := by decide +kernel
theorem dX3_count_105 : decode cX3_count 105 = .ok (.getfield 34, 3) := by decide +kernel
theorem dX3_count_108 : decode cX3_count 108 = .ok (.getfield 121, 3) := by decide +kernel
theorem dX3_count_111 : decode cX3_count 111 = .ok (.ireturn, 1) := by decide +kernel
theorem dX3_count_112 : decode cX3_count 112 = .ok (.aload_n 0, 1) := by decide +kernel
theorem dX3_count_113 : decode cX3_count 113 = .ok (.getfield 34, 3) := by decide +kernel
theorem dX3_count_116 : decode cX3_count 116 = .ok (.getfield 124, 3) := by decide +kernel
theorem dX3_count_119 : decode cX3_count 119 = .ok (.ireturn, 1) := by decide +kernel
theorem dX3_count_120 : decode cX3_count 120 = .ok (.aload_n 0, 1) := by decide +kernel
theorem dX3_count_121 : decode cX3_count 121 = .ok (.getfield 34, 3) := by decide +kernel
theorem dX3_count_124 : decode cX3_count 124 = .ok (.getfield 95, 3) := by decide +kernel
theorem dX3_count_127 : decode cX3_count 127 = .ok (.ireturn, 1) := by decide +kernel
theorem dX3_count_128 : decode cX3_count 128 = .ok (.aload_n 0, 1) := by decide +kernel
theorem dX3_count_129 : decode cX3_count 129 = .ok (.getfield 34, 3) := by decide +kernel
theorem dX3_count_132 : decode cX3_count 132 = .ok (.invokevirtual 152, 3) := by decide +kernel
theorem dX3_count_135 : decode cX3_count 135 = .ok (.ireturn, 1) := by decide +kernel
theorem dX3_count_136 : decode cX3_count 136 = .ok (.aload_n 0, 1) := by decide +kernel
theorem dX3_count_137 : decode cX3_count 137 = .ok (.getfield 34, 3) := by decide +kernel
theorem dX3_count_140 : decode cX3_count 140 = .ok (.aload_n 0, 1) := by decide +kernel
theorem dX3_count_141 : decode cX3_count 141 = .ok (.getfield 9, 3) := by decide +kernel
theorem dX3_count_144 : decode cX3_count 144 = .ok (.invokevirtual 236, 3) := by decide +kernel
theorem dX3_count_147 : decode cX3_count 147 = .ok (.ireturn, 1) := by decide +kernel
theorem dX3_count_148 : decode cX3_count 148 = .ok (.aload_n 0, 1) := by decide +kernel
theorem dX3_count_149 : decode cX3_count 149 = .ok (.getfield 34, 3) := by decide +kernel
theorem dX3_count_152 : decode cX3_count 152 = .ok (.iconst 1, 1) := by decide +kernel
theorem dX3_count_153 : decode cX3_count 153 = .ok (.invokevirtual 240, 3) := by decide +kernel
theorem dX3_count_156 : decode cX3_count 156 = .ok (.ireturn, 1) := by decide +kernel
theorem dX3_count_157 : decode cX3_count 157 = .ok (.aload_n 0, 1) := by decide +kernel
theorem dX3_count_158 : decode cX3_count 158 = .ok (.getfield 34, 3) := by decide +kernel
theorem dX3_count_161 : decode cX3_count 161 = .ok (.iconst (-1), 1) := by decide +kernel
theorem dX3_count_162 : decode cX3_count 162 = .ok (.invokevirtual 240, 3) := by decide +kernel
theorem dX3_count_165 : decode cX3_count 165 = .ok (.ireturn, 1) := by decide +kernel
theorem dX3_count_166 : decode cX3_count 166 = .ok (.aload_n 0, 1) := by decide +kernel
theorem dX3_count_167 : decode cX3_count 167 = .ok (.getfield 34, 3) := by decide +kernel
theorem dX3_count_170 : decode cX3_count 170 = .ok (.iconst 0, 1) := by decide +kernel
theorem dX3_count_171 : decode cX3_count 171 = .ok (.invokevirtual 201, 3) := by decide +kernel
theorem dX3_count_174 : decode cX3_count 174 = .ok (.aload_n 0, 1) := by decide +kernel
theorem dX3_count_175 : decode cX3_count 175 = .ok (.getfield 34, 3) := by decide +kernel
theorem dX3_count_178 : decode cX3_count 178 = .ok (.iconst 1, 1) := by decide +kernel
theorem dX3_count_179 : decode cX3_count 179 = .ok (.invokevirtual 201, 3) := by decide +kernel
theorem dX3_count_182 : decode cX3_count 182 = .ok (.iadd, 1) := by decide +kernel
theorem dX3_count_183 : decode cX3_count 183 = .ok (.aload_n 0, 1) := by decide +kernel
theorem dX3_count_184 : decode cX3_count 184 = .ok (.getfield 34, 3) := by decide +kernel
theorem dX3_count_187 : decode cX3_count 187 = .ok (.iconst 2, 1) := by decide +kernel
theorem dX3_count_188 : decode cX3_count 188 = .ok (.invokevirtual 201, 3) := by decide +kernel
theorem dX3_count_191 : decode cX3_count 191 = .ok (.iadd, 1) := by decide +kernel
theorem dX3_count_192 : decode cX3_count 192 = .ok (.ireturn, 1) := by decide +kernel
theorem dX3_count_193 : decode cX3_count 193 = .ok (.aload_n 0, 1) := by decide +kernel
theorem dX3_count_194 : decode cX3_count 194 = .ok (.getfield 187, 3) := by decide +kernel
theorem dX3_count_197 : decode cX3_count 197 = .ok (.ireturn, 1) := by decide +kernel
theorem dX3_setting_0 : decode cX3_setting 0 = .ok (.iload_n 1, 1) := by decide +kernel
theorem dX3_setting_1 : decode cX3_setting 1 = .ok (.invokestatic 98, 3) := by decide +kernel
theorem dX3_setting_4 : decode cX3_setting 4 = .ok (.aload_n 0, 1) := by decide +kernel
theorem dX3_setting_5 : decode cX3_setting 5 = .ok (.getfield 34, 3) := by decide +kernel
theorem dX3_setting_8 : decode cX3_setting 8 = .ok (.getfield 104, 3) := by decide +kernel
theorem dX3_setting_11 : decode cX3_setting 11 = .ok (.iload_n 1, 1) := by decide +kernel
theorem dX3_setting_12 : decode cX3_setting 12 = .ok (.iaload, 1) := by decide +kernel
theorem dX3_setting_13 : decode cX3_setting 13 = .ok (.ireturn, 1) := by decide +kernel
theorem dX3_whyNot_0 : decode cX3_whyNot 0 = .ok (.aload_n 0, 1) := by decide +kernel
theorem dX3_whyNot_1 : decode cX3_whyNot 1 = .ok (.iload_n 1, 1) := by decide +kernel
theorem dX3_whyNot_2 : decode cX3_whyNot 2 = .ok (.invokevirtual 107, 3) := by decide +kernel
theorem dX3_whyNot_5 : decode cX3_whyNot 5 = .ok (.aload_n 0, 1) := by decide +kernel
theorem dX3_whyNot_6 : decode cX3_whyNot 6 = .ok (.getfield 34, 3) := by decide +kernel
theorem dX3_whyNot_9 : decode cX3_whyNot 9 = .ok (.iload_n 1, 1) := by decide +kernel
theorem dX3_whyNot_10 : decode cX3_whyNot 10 = .ok (.invokevirtual 115, 3) := by decide +kernel
theorem dX3_whyNot_13 : decode cX3_whyNot 13 = .ok (.ireturn, 1) := by decide +kernel
theorem dX3_gain_0 : decode cX3_gain 0 = .ok (.aload_n 0, 1) := by decide +kernel
theorem dX3_gain_1 : decode cX3_gain 1 = .ok (.iload_n 1, 1) := by decide +kernel
theorem dX3_gain_2 : decode cX3_gain 2 = .ok (.invokevirtual 107, 3) := by decide +kernel
theorem dX3_gain_5 : decode cX3_gain 5 = .ok (.iload_n 1, 1) := by decide +kernel
theorem dX3_gain_6 : decode cX3_gain 6 = .ok (.aload_n 0, 1) := by decide +kernel
theorem dX3_gain_7 : decode cX3_gain 7 = .ok (.getfield 34, 3) := by decide +kernel
theorem dX3_gain_10 : decode cX3_gain 10 = .ok (.getfield 65, 3) := by decide +kernel
theorem dX3_gain_13 : decode cX3_gain 13 = .ok (.if_icmp .ne 7, 3) := by decide +kernel
theorem dX3_gain_16 : decode cX3_gain 16 = .ok (.iconst (-1), 1) := by decide +kernel
theorem dX3_gain_17 : decode cX3_gain 17 = .ok (.goto 15, 3) := by decide +kernel
theorem dX3_gain_20 : decode cX3_gain 20 = .ok (.aload_n 0, 1) := by decide +kernel
theorem dX3_gain_21 : decode cX3_gain 21 = .ok (.getfield 34, 3) := by decide +kernel
theorem dX3_gain_24 : decode cX3_gain 24 = .ok (.iload_n 1, 1) := by decide +kernel
theorem dX3_gain_25 : decode cX3_gain 25 = .ok (.invokevirtual 136, 3) := by decide +kernel
theorem dX3_gain_28 : decode cX3_gain 28 = .ok (.sipush 10000, 3) := by decide +kernel
theorem dX3_gain_31 : decode cX3_gain 31 = .ok (.iadd, 1) := by decide +kernel
theorem dX3_gain_32 : decode cX3_gain 32 = .ok (.ireturn, 1) := by decide +kernel
theorem dX3_best_0 : decode cX3_best 0 = .ok (.aload_n 0, 1) := by decide +kernel
theorem dX3_best_1 : decode cX3_best 1 = .ok (.getfield 34, 3) := by decide +kernel
theorem dX3_best_4 : decode cX3_best 4 = .ok (.invokevirtual 132, 3) := by decide +kernel
theorem dX3_best_7 : decode cX3_best 7 = .ok (.ireturn, 1) := by decide +kernel
theorem dX3_bestTwo_0 : decode cX3_bestTwo 0 = .ok (.aload_n 0, 1) := by decide +kernel
theorem dX3_bestTwo_1 : decode cX3_bestTwo 1 = .ok (.getfield 38, 3) := by decide +kernel
theorem dX3_bestTwo_4 : decode cX3_bestTwo 4 = .ok (.aload_n 0, 1) := by decide +kernel
theorem dX3_bestTwo_5 : decode cX3_bestTwo 5 = .ok (.getfield 34, 3) := by decide +kernel
theorem dX3_bestTwo_8 : decode cX3_bestTwo 8 = .ok (.invokevirtual 183, 3) := by decide +kernel
theorem dX3_bestTwo_11 : decode cX3_bestTwo 11 = .ok (.iconst (-1), 1) := by decide +kernel
theorem dX3_bestTwo_12 : decode cX3_bestTwo 12 = .ok (.istore_n 1, 1) := by decide +kernel
theorem dX3_bestTwo_13 : decode cX3_bestTwo 13 = .ok (.iconst 0, 1) := by decide +kernel
theorem dX3_bestTwo_14 : decode cX3_bestTwo 14 = .ok (.istore_n 2, 1) := by decide +kernel
theorem dX3_bestTwo_15 : decode cX3_bestTwo 15 = .ok (.iconst 0, 1) := by decide +kernel
theorem dX3_bestTwo_16 : decode cX3_bestTwo 16 = .ok (.istore_n 3, 1) := by decide +kernel
theorem dX3_bestTwo_17 : decode cX3_bestTwo 17 = .ok (.iload_n 3, 1) := by decide +kernel
theorem dX3_bestTwo_18 : decode cX3_bestTwo 18 = .ok (.aload_n 0, 1) := by decide +kernel
theorem dX3_bestTwo_19 : decode cX3_bestTwo 19 = .ok (.getfield 34, 3) := by decide +kernel
theorem dX3_bestTwo_22 : decode cX3_bestTwo 22 = .ok (.getfield 55, 3) := by decide +kernel
theorem dX3_bestTwo_25 : decode cX3_bestTwo 25 = .ok (.if_icmp .ge 92, 3) := by decide +kernel
theorem dX3_bestTwo_28 : decode cX3_bestTwo 28 = .ok (.aload_n 0, 1) := by decide +kernel
theorem dX3_bestTwo_29 : decode cX3_bestTwo 29 = .ok (.getfield 34, 3) := by decide +kernel
theorem dX3_bestTwo_32 : decode cX3_bestTwo 32 = .ok (.iload_n 3, 1) := by decide +kernel
theorem dX3_bestTwo_33 : decode cX3_bestTwo 33 = .ok (.invokevirtual 115, 3) := by decide +kernel
theorem dX3_bestTwo_36 : decode cX3_bestTwo 36 = .ok (.ifCond .ne 75, 3) := by decide +kernel
theorem dX3_bestTwo_39 : decode cX3_bestTwo 39 = .ok (.aload_n 0, 1) := by decide +kernel
theorem dX3_bestTwo_40 : decode cX3_bestTwo 40 = .ok (.getfield 38, 3) := by decide +kernel
theorem dX3_bestTwo_43 : decode cX3_bestTwo 43 = .ok (.iload_n 3, 1) := by decide +kernel
theorem dX3_bestTwo_44 : decode cX3_bestTwo 44 = .ok (.invokevirtual 118, 3) := by decide +kernel
theorem dX3_bestTwo_47 : decode cX3_bestTwo 47 = .ok (.aload_n 0, 1) := by decide +kernel
theorem dX3_bestTwo_48 : decode cX3_bestTwo 48 = .ok (.getfield 38, 3) := by decide +kernel
theorem dX3_bestTwo_51 : decode cX3_bestTwo 51 = .ok (.invokevirtual 243, 3) := by decide +kernel
theorem dX3_bestTwo_54 : decode cX3_bestTwo 54 = .ok (.istore 4, 2) := by decide +kernel
theorem dX3_bestTwo_56 : decode cX3_bestTwo 56 = .ok (.iload 4, 2) := by decide +kernel
theorem dX3_bestTwo_58 : decode cX3_bestTwo 58 = .ok (.iconst (-1), 1) := by decide +kernel
theorem dX3_bestTwo_59 : decode cX3_bestTwo 59 = .ok (.if_icmp .eq 45, 3) := by decide +kernel
theorem dX3_bestTwo_62 : decode cX3_bestTwo 62 = .ok (.aload_n 0, 1) := by decide +kernel
theorem dX3_bestTwo_63 : decode cX3_bestTwo 63 = .ok (.getfield 34, 3) := by decide +kernel
theorem dX3_bestTwo_66 : decode cX3_bestTwo 66 = .ok (.iload_n 3, 1) := by decide +kernel
theorem dX3_bestTwo_67 : decode cX3_bestTwo 67 = .ok (.invokevirtual 136, 3) := by decide +kernel
theorem dX3_bestTwo_70 : decode cX3_bestTwo 70 = .ok (.aload_n 0, 1) := by decide +kernel
theorem dX3_bestTwo_71 : decode cX3_bestTwo 71 = .ok (.getfield 38, 3) := by decide +kernel
theorem dX3_bestTwo_74 : decode cX3_bestTwo 74 = .ok (.iload 4, 2) := by decide +kernel
theorem dX3_bestTwo_76 : decode cX3_bestTwo 76 = .ok (.invokevirtual 136, 3) := by decide +kernel
theorem dX3_bestTwo_79 : decode cX3_bestTwo 79 = .ok (.iadd, 1) := by decide +kernel
theorem dX3_bestTwo_80 : decode cX3_bestTwo 80 = .ok (.istore 5, 2) := by decide +kernel
theorem dX3_bestTwo_82 : decode cX3_bestTwo 82 = .ok (.iload_n 1, 1) := by decide +kernel
theorem dX3_bestTwo_83 : decode cX3_bestTwo 83 = .ok (.iconst (-1), 1) := by decide +kernel
theorem dX3_bestTwo_84 : decode cX3_bestTwo 84 = .ok (.if_icmp .eq 9, 3) := by decide +kernel
theorem dX3_bestTwo_87 : decode cX3_bestTwo 87 = .ok (.iload 5, 2) := by decide +kernel
theorem dX3_bestTwo_89 : decode cX3_bestTwo 89 = .ok (.iload_n 2, 1) := by decide +kernel
theorem dX3_bestTwo_90 : decode cX3_bestTwo 90 = .ok (.if_icmp .le 14, 3) := by decide +kernel
theorem dX3_bestTwo_93 : decode cX3_bestTwo 93 = .ok (.bipush 100, 2) := by decide +kernel
theorem dX3_bestTwo_95 : decode cX3_bestTwo 95 = .ok (.iload_n 3, 1) := by decide +kernel
theorem dX3_bestTwo_96 : decode cX3_bestTwo 96 = .ok (.imul, 1) := by decide +kernel
theorem dX3_bestTwo_97 : decode cX3_bestTwo 97 = .ok (.iload 4, 2) := by decide +kernel
theorem dX3_bestTwo_99 : decode cX3_bestTwo 99 = .ok (.iadd, 1) := by decide +kernel
theorem dX3_bestTwo_100 : decode cX3_bestTwo 100 = .ok (.istore_n 1, 1) := by decide +kernel
theorem dX3_bestTwo_101 : decode cX3_bestTwo 101 = .ok (.iload 5, 2) := by decide +kernel
theorem dX3_bestTwo_103 : decode cX3_bestTwo 103 = .ok (.istore_n 2, 1) := by decide +kernel
theorem dX3_bestTwo_104 : decode cX3_bestTwo 104 = .ok (.aload_n 0, 1) := by decide +kernel
theorem dX3_bestTwo_105 : decode cX3_bestTwo 105 = .ok (.getfield 38, 3) := by decide +kernel
theorem dX3_bestTwo_108 : decode cX3_bestTwo 108 = .ok (.invokevirtual 129, 3) := by decide +kernel
theorem dX3_bestTwo_111 : decode cX3_bestTwo 111 = .ok (.iinc 3 1, 3) := by decide +kernel
theorem dX3_bestTwo_114 : decode cX3_bestTwo 114 = .ok (.goto (-97), 3) := by decide +kernel
theorem dX3_bestTwo_117 : decode cX3_bestTwo 117 = .ok (.iload_n 1, 1) := by decide +kernel
theorem dX3_bestTwo_118 : decode cX3_bestTwo 118 = .ok (.ireturn, 1) := by decide +kernel
theorem dX3_palest_0 : decode cX3_palest 0 = .ok (.iconst (-1), 1) := by decide +kernel
theorem dX3_palest_1 : decode cX3_palest 1 = .ok (.istore_n 1, 1) := by decide +kernel
theorem dX3_palest_2 : decode cX3_palest 2 = .ok (.iconst 0, 1) := by decide +kernel
theorem dX3_palest_3 : decode cX3_palest 3 = .ok (.istore_n 2, 1) := by decide +kernel
theorem dX3_palest_4 : decode cX3_palest 4 = .ok (.iconst 0, 1) := by decide +kernel
theorem dX3_palest_5 : decode cX3_palest 5 = .ok (.istore_n 3, 1) := by decide +kernel
theorem dX3_palest_6 : decode cX3_palest 6 = .ok (.iload_n 3, 1) := by decide +kernel
theorem dX3_palest_7 : decode cX3_palest 7 = .ok (.sipush 144, 3) := by decide +kernel
theorem dX3_palest_10 : decode cX3_palest 10 = .ok (.if_icmp .ge 41, 3) := by decide +kernel
theorem dX3_palest_13 : decode cX3_palest 13 = .ok (.aload_n 0, 1) := by decide +kernel
theorem dX3_palest_14 : decode cX3_palest 14 = .ok (.getfield 34, 3) := by decide +kernel
theorem dX3_palest_17 : decode cX3_palest 17 = .ok (.iload_n 3, 1) := by decide +kernel
theorem dX3_palest_18 : decode cX3_palest 18 = .ok (.invokevirtual 230, 3) := by decide +kernel
theorem dX3_palest_21 : decode cX3_palest 21 = .ok (.istore 4, 2) := by decide +kernel
theorem dX3_palest_23 : decode cX3_palest 23 = .ok (.iload 4, 2) := by decide +kernel
theorem dX3_palest_25 : decode cX3_palest 25 = .ok (.iload_n 2, 1) := by decide +kernel
theorem dX3_palest_26 : decode cX3_palest 26 = .ok (.if_icmp .le 19, 3) := by decide +kernel
theorem dX3_palest_29 : decode cX3_palest 29 = .ok (.iload 4, 2) := by decide +kernel
theorem dX3_palest_31 : decode cX3_palest 31 = .ok (.istore_n 2, 1) := by decide +kernel
theorem dX3_palest_32 : decode cX3_palest 32 = .ok (.bipush 100, 2) := by decide +kernel
theorem dX3_palest_34 : decode cX3_palest 34 = .ok (.iload_n 3, 1) := by decide +kernel
theorem dX3_palest_35 : decode cX3_palest 35 = .ok (.bipush 12, 2) := by decide +kernel
theorem dX3_palest_37 : decode cX3_palest 37 = .ok (.idiv, 1) := by decide +kernel
theorem dX3_palest_38 : decode cX3_palest 38 = .ok (.imul, 1) := by decide +kernel
theorem dX3_palest_39 : decode cX3_palest 39 = .ok (.iload_n 3, 1) := by decide +kernel
theorem dX3_palest_40 : decode cX3_palest 40 = .ok (.bipush 12, 2) := by decide +kernel
theorem dX3_palest_42 : decode cX3_palest 42 = .ok (.irem, 1) := by decide +kernel
theorem dX3_palest_43 : decode cX3_palest 43 = .ok (.iadd, 1) := by decide +kernel
theorem dX3_palest_44 : decode cX3_palest 44 = .ok (.istore_n 1, 1) := by decide +kernel
theorem dX3_palest_45 : decode cX3_palest 45 = .ok (.iinc 3 1, 3) := by decide +kernel
theorem dX3_palest_48 : decode cX3_palest 48 = .ok (.goto (-42), 3) := by decide +kernel
theorem dX3_palest_51 : decode cX3_palest 51 = .ok (.iload_n 1, 1) := by decide +kernel
theorem dX3_palest_52 : decode cX3_palest 52 = .ok (.ireturn, 1) := by decide +kernel
theorem dX3_bestSpool_0 : decode cX3_bestSpool 0 = .ok (.aload_n 0, 1) := by decide +kernel
theorem dX3_bestSpool_1 : decode cX3_bestSpool 1 = .ok (.getfield 38, 3) := by decide +kernel
theorem dX3_bestSpool_4 : decode cX3_bestSpool 4 = .ok (.aload_n 0, 1) := by decide +kernel
theorem dX3_bestSpool_5 : decode cX3_bestSpool 5 = .ok (.getfield 34, 3) := by decide +kernel
theorem dX3_bestSpool_8 : decode cX3_bestSpool 8 = .ok (.invokevirtual 183, 3) := by decide +kernel
theorem dX3_bestSpool_11 : decode cX3_bestSpool 11 = .ok (.iconst (-1), 1) := by decide +kernel
theorem dX3_bestSpool_12 : decode cX3_bestSpool 12 = .ok (.istore_n 1, 1) := by decide +kernel
theorem dX3_bestSpool_13 : decode cX3_bestSpool 13 = .ok (.iconst 0, 1) := by decide +kernel
theorem dX3_bestSpool_14 : decode cX3_bestSpool 14 = .ok (.istore_n 2, 1) := by decide +kernel
theorem dX3_bestSpool_15 : decode cX3_bestSpool 15 = .ok (.iconst 0, 1) := by decide +kernel
theorem dX3_bestSpool_16 : decode cX3_bestSpool 16 = .ok (.istore_n 3, 1) := by decide +kernel
theorem dX3_bestSpool_17 : decode cX3_bestSpool 17 = .ok (.iload_n 3, 1) := by decide +kernel
theorem dX3_bestSpool_18 : decode cX3_bestSpool 18 = .ok (.iconst 3, 1) := by decide +kernel
theorem dX3_bestSpool_19 : decode cX3_bestSpool 19 = .ok (.if_icmp .ge 59, 3) := by decide +kernel
theorem dX3_bestSpool_22 : decode cX3_bestSpool 22 = .ok (.aload_n 0, 1) := by decide +kernel
theorem dX3_bestSpool_23 : decode cX3_bestSpool 23 = .ok (.getfield 38, 3) := by decide +kernel
theorem dX3_bestSpool_26 : decode cX3_bestSpool 26 = .ok (.iload_n 3, 1) := by decide +kernel
theorem dX3_bestSpool_27 : decode cX3_bestSpool 27 = .ok (.putfield 76, 3) := by decide +kernel
theorem dX3_bestSpool_30 : decode cX3_bestSpool 30 = .ok (.aload_n 0, 1) := by decide +kernel
theorem dX3_bestSpool_31 : decode cX3_bestSpool 31 = .ok (.getfield 38, 3) := by decide +kernel
theorem dX3_bestSpool_34 : decode cX3_bestSpool 34 = .ok (.invokevirtual 132, 3) := by decide +kernel
theorem dX3_bestSpool_37 : decode cX3_bestSpool 37 = .ok (.istore 4, 2) := by decide +kernel
theorem dX3_bestSpool_39 : decode cX3_bestSpool 39 = .ok (.iload 4, 2) := by decide +kernel
theorem dX3_bestSpool_41 : decode cX3_bestSpool 41 = .ok (.iconst (-1), 1) := by decide +kernel
theorem dX3_bestSpool_42 : decode cX3_bestSpool 42 = .ok (.if_icmp .eq 30, 3) := by decide +kernel
theorem dX3_bestSpool_45 : decode cX3_bestSpool 45 = .ok (.aload_n 0, 1) := by decide +kernel
theorem dX3_bestSpool_46 : decode cX3_bestSpool 46 = .ok (.getfield 38, 3) := by decide +kernel
theorem dX3_bestSpool_49 : decode cX3_bestSpool 49 = .ok (.iload 4, 2) := by decide +kernel
theorem dX3_bestSpool_51 : decode cX3_bestSpool 51 = .ok (.invokevirtual 136, 3) := by decide +kernel
theorem dX3_bestSpool_54 : decode cX3_bestSpool 54 = .ok (.istore 5, 2) := by decide +kernel
theorem dX3_bestSpool_56 : decode cX3_bestSpool 56 = .ok (.iload_n 1, 1) := by decide +kernel
theorem dX3_bestSpool_57 : decode cX3_bestSpool 57 = .ok (.iconst (-1), 1) := by decide +kernel
theorem dX3_bestSpool_58 : decode cX3_bestSpool 58 = .ok (.if_icmp .eq 9, 3) := by decide +kernel
theorem dX3_bestSpool_61 : decode cX3_bestSpool 61 = .ok (.iload 5, 2) := by decide +kernel
theorem dX3_bestSpool_63 : decode cX3_bestSpool 63 = .ok (.iload_n 2, 1) := by decide +kernel
theorem dX3_bestSpool_64 : decode cX3_bestSpool 64 = .ok (.if_icmp .le 8, 3) := by decide +kernel
theorem dX3_bestSpool_67 : decode cX3_bestSpool 67 = .ok (.iload_n 3, 1) := by decide +kernel
theorem dX3_bestSpool_68 : decode cX3_bestSpool 68 = .ok (.istore_n 1, 1) := by decide +kernel
theorem dX3_bestSpool_69 : decode cX3_bestSpool 69 = .ok (.iload 5, 2) := by decide +kernel
theorem dX3_bestSpool_71 : decode cX3_bestSpool 71 = .ok (.istore_n 2, 1) := by decide +kernel
theorem dX3_bestSpool_72 : decode cX3_bestSpool 72 = .ok (.iinc 3 1, 3) := by decide +kernel
theorem dX3_bestSpool_75 : decode cX3_bestSpool 75 = .ok (.goto (-58), 3) := by decide +kernel
theorem dX3_bestSpool_78 : decode cX3_bestSpool 78 = .ok (.iload_n 1, 1) := by decide +kernel
theorem dX3_bestSpool_79 : decode cX3_bestSpool 79 = .ok (.ireturn, 1) := by decide +kernel
theorem dX3_shownShare_0 : decode cX3_shownShare 0 = .ok (.aload_n 0, 1) := by decide +kernel
theorem dX3_shownShare_1 : decode cX3_shownShare 1 = .ok (.getfield 34, 3) := by decide +kernel
theorem dX3_shownShare_4 : decode cX3_shownShare 4 = .ok (.iconst 0, 1) := by decide +kernel
theorem dX3_shownShare_5 : decode cX3_shownShare 5 = .ok (.invokevirtual 240, 3) := by decide +kernel
theorem dX3_shownShare_8 : decode cX3_shownShare 8 = .ok (.i2d, 1) := by decide +kernel
theorem dX3_shownShare_9 : decode cX3_shownShare 9 = .ok (.ldc2_w 246, 3) := by decide +kernel
theorem dX3_shownShare_12 : decode cX3_shownShare 12 = .ok (.ddiv, 1) := by decide +kernel
theorem dX3_shownShare_13 : decode cX3_shownShare 13 = .ok (.dreturn, 1) := by decide +kernel
theorem dX3_digest_0 : decode cX3_digest 0 = .ok (.ldc2_w 248, 3) := by decide +kernel
theorem dX3_digest_3 : decode cX3_digest 3 = .ok (.lstore_n 1, 1) := by decide +kernel
theorem dX3_digest_4 : decode cX3_digest 4 = .ok (.iconst 0, 1) := by decide +kernel
theorem dX3_digest_5 : decode cX3_digest 5 = .ok (.istore_n 3, 1) := by decide +kernel
theorem dX3_digest_6 : decode cX3_digest 6 = .ok (.iload_n 3, 1) := by decide +kernel
theorem dX3_digest_7 : decode cX3_digest 7 = .ok (.bipush 13, 2) := by decide +kernel
theorem dX3_digest_9 : decode cX3_digest 9 = .ok (.if_icmp .ge 22, 3) := by decide +kernel
theorem dX3_digest_12 : decode cX3_digest 12 = .ok (.ldc2_w 250, 3) := by decide +kernel
theorem dX3_digest_15 : decode cX3_digest 15 = .ok (.lload_n 1, 1) := by decide +kernel
theorem dX3_digest_16 : decode cX3_digest 16 = .ok (.lmul, 1) := by decide +kernel
theorem dX3_digest_17 : decode cX3_digest 17 = .ok (.aload_n 0, 1) := by decide +kernel
theorem dX3_digest_18 : decode cX3_digest 18 = .ok (.iload_n 3, 1) := by decide +kernel
theorem dX3_digest_19 : decode cX3_digest 19 = .ok (.invokevirtual 252, 3) := by decide +kernel
theorem dX3_digest_22 : decode cX3_digest 22 = .ok (.i2l, 1) := by decide +kernel
theorem dX3_digest_23 : decode cX3_digest 23 = .ok (.ladd, 1) := by decide +kernel
theorem dX3_digest_24 : decode cX3_digest 24 = .ok (.lstore_n 1, 1) := by decide +kernel
theorem dX3_digest_25 : decode cX3_digest 25 = .ok (.iinc 3 1, 3) := by decide +kernel
theorem dX3_digest_28 : decode cX3_digest 28 = .ok (.goto (-22), 3) := by decide +kernel
theorem dX3_digest_31 : decode cX3_digest 31 = .ok (.iconst 0, 1) := by decide +kernel
theorem dX3_digest_32 : decode cX3_digest 32 = .ok (.istore_n 3, 1) := by decide +kernel
theorem dX3_digest_33 : decode cX3_digest 33 = .ok (.iload_n 3, 1) := by decide +kernel
theorem dX3_digest_34 : decode cX3_digest 34 = .ok (.iconst 3, 1) := by decide +kernel
theorem dX3_digest_35 : decode cX3_digest 35 = .ok (.if_icmp .ge 26, 3) := by decide +kernel
theorem dX3_digest_38 : decode cX3_digest 38 = .ok (.ldc2_w 250, 3) := by decide +kernel
theorem dX3_digest_41 : decode cX3_digest 41 = .ok (.lload_n 1, 1) := by decide +kernel
theorem dX3_digest_42 : decode cX3_digest 42 = .ok (.lmul, 1) := by decide +kernel
theorem dX3_digest_43 : decode cX3_digest 43 = .ok (.aload_n 0, 1) := by decide +kernel
theorem dX3_digest_44 : decode cX3_digest 44 = .ok (.getfield 34, 3) := by decide +kernel
theorem dX3_digest_47 : decode cX3_digest 47 = .ok (.getfield 104, 3) := by decide +kernel
theorem dX3_digest_50 : decode cX3_digest 50 = .ok (.iload_n 3, 1) := by decide +kernel
theorem dX3_digest_51 : decode cX3_digest 51 = .ok (.iaload, 1) := by decide +kernel
theorem dX3_digest_52 : decode cX3_digest 52 = .ok (.i2l, 1) := by decide +kernel
theorem dX3_digest_53 : decode cX3_digest 53 = .ok (.ladd, 1) := by decide +kernel
theorem dX3_digest_54 : decode cX3_digest 54 = .ok (.lstore_n 1, 1) := by decide +kernel
theorem dX3_digest_55 : decode cX3_digest 55 = .ok (.iinc 3 1, 3) := by decide +kernel
theorem dX3_digest_58 : decode cX3_digest 58 = .ok (.goto (-25), 3) := by decide +kernel
theorem dX3_digest_61 : decode cX3_digest 61 = .ok (.aload_n 0, 1) := by decide +kernel
theorem dX3_digest_62 : decode cX3_digest 62 = .ok (.lload_n 1, 1) := by decide +kernel
theorem dX3_digest_63 : decode cX3_digest 63 = .ok (.invokevirtual 255, 3) := by decide +kernel
theorem dX3_digest_66 : decode cX3_digest 66 = .ok (.lstore_n 1, 1) := by decide +kernel
theorem dX3_digest_67 : decode cX3_digest 67 = .ok (.aload_n 0, 1) := by decide +kernel
theorem dX3_digest_68 : decode cX3_digest 68 = .ok (.lload_n 1, 1) := by decide +kernel
theorem dX3_digest_69 : decode cX3_digest 69 = .ok (.invokevirtual 259, 3) := by decide +kernel
theorem dX3_digest_72 : decode cX3_digest 72 = .ok (.lstore_n 1, 1) := by decide +kernel
theorem dX3_digest_73 : decode cX3_digest 73 = .ok (.aload_n 0, 1) := by decide +kernel
theorem dX3_digest_74 : decode cX3_digest 74 = .ok (.lload_n 1, 1) := by decide +kernel
theorem dX3_digest_75 : decode cX3_digest 75 = .ok (.invokevirtual 262, 3) := by decide +kernel
theorem dX3_digest_78 : decode cX3_digest 78 = .ok (.lstore_n 1, 1) := by decide +kernel
theorem dX3_digest_79 : decode cX3_digest 79 = .ok (.aload_n 0, 1) := by decide +kernel
theorem dX3_digest_80 : decode cX3_digest 80 = .ok (.lload_n 1, 1) := by decide +kernel
theorem dX3_digest_81 : decode cX3_digest 81 = .ok (.invokevirtual 265, 3) := by decide +kernel
theorem dX3_digest_84 : decode cX3_digest 84 = .ok (.lstore_n 1, 1) := by decide +kernel
theorem dX3_digest_85 : decode cX3_digest 85 = .ok (.aload_n 0, 1) := by decide +kernel
theorem dX3_digest_86 : decode cX3_digest 86 = .ok (.lload_n 1, 1) := by decide +kernel
theorem dX3_digest_87 : decode cX3_digest 87 = .ok (.iconst 0, 1) := by decide +kernel
theorem dX3_digest_88 : decode cX3_digest 88 = .ok (.iconst 1, 1) := by decide +kernel
theorem dX3_digest_89 : decode cX3_digest 89 = .ok (.invokevirtual 268, 3) := by decide +kernel
theorem dX3_digest_92 : decode cX3_digest 92 = .ok (.lstore_n 1, 1) := by decide +kernel
theorem dX3_digest_93 : decode cX3_digest 93 = .ok (.aload_n 0, 1) := by decide +kernel
theorem dX3_digest_94 : decode cX3_digest 94 = .ok (.lload_n 1, 1) := by decide +kernel
theorem dX3_digest_95 : decode cX3_digest 95 = .ok (.iconst 0, 1) := by decide +kernel
theorem dX3_digest_96 : decode cX3_digest 96 = .ok (.iconst 2, 1) := by decide +kernel
theorem dX3_digest_97 : decode cX3_digest 97 = .ok (.invokevirtual 268, 3) := by decide +kernel
theorem dX3_digest_100 : decode cX3_digest 100 = .ok (.lstore_n 1, 1) := by decide +kernel
theorem dX3_digest_101 : decode cX3_digest 101 = .ok (.ldc2_w 250, 3) := by decide +kernel
theorem dX3_digest_104 : decode cX3_digest 104 = .ok (.lload_n 1, 1) := by decide +kernel
theorem dX3_digest_105 : decode cX3_digest 105 = .ok (.lmul, 1) := by decide +kernel
theorem dX3_digest_106 : decode cX3_digest 106 = .ok (.aload_n 0, 1) := by decide +kernel
theorem dX3_digest_107 : decode cX3_digest 107 = .ok (.invokevirtual 272, 3) := by decide +kernel
theorem dX3_digest_110 : decode cX3_digest 110 = .ok (.i2l, 1) := by decide +kernel
theorem dX3_digest_111 : decode cX3_digest 111 = .ok (.ladd, 1) := by decide +kernel
theorem dX3_digest_112 : decode cX3_digest 112 = .ok (.lstore_n 1, 1) := by decide +kernel
theorem dX3_digest_113 : decode cX3_digest 113 = .ok (.ldc2_w 250, 3) := by decide +kernel
theorem dX3_digest_116 : decode cX3_digest 116 = .ok (.lload_n 1, 1) := by decide +kernel
theorem dX3_digest_117 : decode cX3_digest 117 = .ok (.lmul, 1) := by decide +kernel
theorem dX3_digest_118 : decode cX3_digest 118 = .ok (.aload_n 0, 1) := by decide +kernel
theorem dX3_digest_119 : decode cX3_digest 119 = .ok (.invokevirtual 275, 3) := by decide +kernel
theorem dX3_digest_122 : decode cX3_digest 122 = .ok (.i2l, 1) := by decide +kernel
theorem dX3_digest_123 : decode cX3_digest 123 = .ok (.ladd, 1) := by decide +kernel
theorem dX3_digest_124 : decode cX3_digest 124 = .ok (.lstore_n 1, 1) := by decide +kernel
theorem dX3_digest_125 : decode cX3_digest 125 = .ok (.ldc2_w 250, 3) := by decide +kernel
theorem dX3_digest_128 : decode cX3_digest 128 = .ok (.lload_n 1, 1) := by decide +kernel
theorem dX3_digest_129 : decode cX3_digest 129 = .ok (.lmul, 1) := by decide +kernel
theorem dX3_digest_130 : decode cX3_digest 130 = .ok (.aload_n 0, 1) := by decide +kernel
theorem dX3_digest_131 : decode cX3_digest 131 = .ok (.invokevirtual 278, 3) := by decide +kernel
theorem dX3_digest_134 : decode cX3_digest 134 = .ok (.i2l, 1) := by decide +kernel
theorem dX3_digest_135 : decode cX3_digest 135 = .ok (.ladd, 1) := by decide +kernel
theorem dX3_digest_136 : decode cX3_digest 136 = .ok (.lstore_n 1, 1) := by decide +kernel
theorem dX3_digest_137 : decode cX3_digest 137 = .ok (.ldc2_w 250, 3) := by decide +kernel
theorem dX3_digest_140 : decode cX3_digest 140 = .ok (.lload_n 1, 1) := by decide +kernel
theorem dX3_digest_141 : decode cX3_digest 141 = .ok (.lmul, 1) := by decide +kernel
theorem dX3_digest_142 : decode cX3_digest 142 = .ok (.aload_n 0, 1) := by decide +kernel
theorem dX3_digest_143 : decode cX3_digest 143 = .ok (.invokevirtual 281, 3) := by decide +kernel
theorem dX3_digest_146 : decode cX3_digest 146 = .ok (.i2l, 1) := by decide +kernel
theorem dX3_digest_147 : decode cX3_digest 147 = .ok (.ladd, 1) := by decide +kernel
theorem dX3_digest_148 : decode cX3_digest 148 = .ok (.lstore_n 1, 1) := by decide +kernel
theorem dX3_digest_149 : decode cX3_digest 149 = .ok (.ldc2_w 250, 3) := by decide +kernel
theorem dX3_digest_152 : decode cX3_digest 152 = .ok (.lload_n 1, 1) := by decide +kernel
theorem dX3_digest_153 : decode cX3_digest 153 = .ok (.lmul, 1) := by decide +kernel
theorem dX3_digest_154 : decode cX3_digest 154 = .ok (.aload_n 0, 1) := by decide +kernel
theorem dX3_digest_155 : decode cX3_digest 155 = .ok (.invokevirtual 284, 3) := by decide +kernel
theorem dX3_digest_158 : decode cX3_digest 158 = .ok (.invokestatic 288, 3) := by decide +kernel
theorem dX3_digest_161 : decode cX3_digest 161 = .ok (.ladd, 1) := by decide +kernel
theorem dX3_digest_162 : decode cX3_digest 162 = .ok (.lstore_n 1, 1) := by decide +kernel
theorem dX3_digest_163 : decode cX3_digest 163 = .ok (.iconst 0, 1) := by decide +kernel
theorem dX3_digest_164 : decode cX3_digest 164 = .ok (.istore_n 3, 1) := by decide +kernel
theorem dX3_digest_165 : decode cX3_digest 165 = .ok (.iload_n 3, 1) := by decide +kernel
theorem dX3_digest_166 : decode cX3_digest 166 = .ok (.iconst 2, 1) := by decide +kernel
theorem dX3_digest_167 : decode cX3_digest 167 = .ok (.if_icmp .ge 31, 3) := by decide +kernel
theorem dX3_digest_170 : decode cX3_digest 170 = .ok (.ldc2_w 250, 3) := by decide +kernel
theorem dX3_digest_173 : decode cX3_digest 173 = .ok (.lload_n 1, 1) := by decide +kernel
theorem dX3_digest_174 : decode cX3_digest 174 = .ok (.lmul, 1) := by decide +kernel
theorem dX3_digest_175 : decode cX3_digest 175 = .ok (.aload_n 0, 1) := by decide +kernel
theorem dX3_digest_176 : decode cX3_digest 176 = .ok (.getfield 22, 3) := by decide +kernel
theorem dX3_digest_179 : decode cX3_digest 179 = .ok (.iload_n 3, 1) := by decide +kernel
theorem dX3_digest_180 : decode cX3_digest 180 = .ok (.aaload, 1) := by decide +kernel
theorem dX3_digest_181 : decode cX3_digest 181 = .ok (.ifnonnull 7, 3) := by decide +kernel
theorem dX3_digest_184 : decode cX3_digest 184 = .ok (.iconst 0, 1) := by decide +kernel
theorem dX3_digest_185 : decode cX3_digest 185 = .ok (.goto 4, 3) := by decide +kernel
theorem dX3_digest_188 : decode cX3_digest 188 = .ok (.iconst 1, 1) := by decide +kernel
theorem dX3_digest_189 : decode cX3_digest 189 = .ok (.i2l, 1) := by decide +kernel
theorem dX3_digest_190 : decode cX3_digest 190 = .ok (.ladd, 1) := by decide +kernel
theorem dX3_digest_191 : decode cX3_digest 191 = .ok (.lstore_n 1, 1) := by decide +kernel
theorem dX3_digest_192 : decode cX3_digest 192 = .ok (.iinc 3 1, 3) := by decide +kernel
theorem dX3_digest_195 : decode cX3_digest 195 = .ok (.goto (-30), 3) := by decide +kernel
theorem dX3_digest_198 : decode cX3_digest 198 = .ok (.ldc2_w 250, 3) := by decide +kernel
theorem dX3_digest_201 : decode cX3_digest 201 = .ok (.lload_n 1, 1) := by decide +kernel
theorem dX3_digest_202 : decode cX3_digest 202 = .ok (.lmul, 1) := by decide +kernel
theorem dX3_digest_203 : decode cX3_digest 203 = .ok (.aload_n 0, 1) := by decide +kernel
theorem dX3_digest_204 : decode cX3_digest 204 = .ok (.getfield 16, 3) := by decide +kernel
theorem dX3_digest_207 : decode cX3_digest 207 = .ok (.getfield 155, 3) := by decide +kernel
theorem dX3_digest_210 : decode cX3_digest 210 = .ok (.i2l, 1) := by decide +kernel
theorem dX3_digest_211 : decode cX3_digest 211 = .ok (.ladd, 1) := by decide +kernel
theorem dX3_digest_212 : decode cX3_digest 212 = .ok (.lstore_n 1, 1) := by decide +kernel
theorem dX3_digest_213 : decode cX3_digest 213 = .ok (.iconst 0, 1) := by decide +kernel
theorem dX3_digest_214 : decode cX3_digest 214 = .ok (.istore_n 3, 1) := by decide +kernel
theorem dX3_digest_215 : decode cX3_digest 215 = .ok (.iload_n 3, 1) := by decide +kernel
theorem dX3_digest_216 : decode cX3_digest 216 = .ok (.aload_n 0, 1) := by decide +kernel
theorem dX3_digest_217 : decode cX3_digest 217 = .ok (.getfield 16, 3) := by decide +kernel
theorem dX3_digest_220 : decode cX3_digest 220 = .ok (.getfield 155, 3) := by decide +kernel
theorem dX3_digest_223 : decode cX3_digest 223 = .ok (.if_icmp .ge 26, 3) := by decide +kernel
theorem dX3_digest_226 : decode cX3_digest 226 = .ok (.ldc2_w 250, 3) := by decide +kernel
theorem dX3_digest_229 : decode cX3_digest 229 = .ok (.lload_n 1, 1) := by decide +kernel
theorem dX3_digest_230 : decode cX3_digest 230 = .ok (.lmul, 1) := by decide +kernel
theorem dX3_digest_231 : decode cX3_digest 231 = .ok (.aload_n 0, 1) := by decide +kernel
theorem dX3_digest_232 : decode cX3_digest 232 = .ok (.getfield 16, 3) := by decide +kernel
theorem dX3_digest_235 : decode cX3_digest 235 = .ok (.getfield 292, 3) := by decide +kernel
theorem dX3_digest_238 : decode cX3_digest 238 = .ok (.iload_n 3, 1) := by decide +kernel
theorem dX3_digest_239 : decode cX3_digest 239 = .ok (.caload, 1) := by decide +kernel
theorem dX3_digest_240 : decode cX3_digest 240 = .ok (.i2l, 1) := by decide +kernel
theorem dX3_digest_241 : decode cX3_digest 241 = .ok (.ladd, 1) := by decide +kernel
theorem dX3_digest_242 : decode cX3_digest 242 = .ok (.lstore_n 1, 1) := by decide +kernel
theorem dX3_digest_243 : decode cX3_digest 243 = .ok (.iinc 3 1, 3) := by decide +kernel
theorem dX3_digest_246 : decode cX3_digest 246 = .ok (.goto (-31), 3) := by decide +kernel
theorem dX3_digest_249 : decode cX3_digest 249 = .ok (.lload_n 1, 1) := by decide +kernel
theorem dX3_digest_250 : decode cX3_digest 250 = .ok (.lreturn, 1) := by decide +kernel
theorem dX3_withNails_0 : decode cX3_withNails 0 = .ok (.lload_n 1, 1) := by decide +kernel
theorem dX3_withNails_1 : decode cX3_withNails 1 = .ok (.lstore_n 3, 1) := by decide +kernel
theorem dX3_withNails_2 : decode cX3_withNails 2 = .ok (.iconst 0, 1) := by decide +kernel
theorem dX3_withNails_3 : decode cX3_withNails 3 = .ok (.istore 5, 2) := by decide +kernel
theorem dX3_withNails_5 : decode cX3_withNails 5 = .ok (.iload 5, 2) := by decide +kernel
theorem dX3_withNails_7 : decode cX3_withNails 7 = .ok (.aload_n 0, 1) := by decide +kernel
theorem dX3_withNails_8 : decode cX3_withNails 8 = .ok (.getfield 34, 3) := by decide +kernel
theorem dX3_withNails_11 : decode cX3_withNails 11 = .ok (.getfield 55, 3) := by decide +kernel
theorem dX3_withNails_14 : decode cX3_withNails 14 = .ok (.if_icmp .ge 68, 3) := by decide +kernel
theorem dX3_withNails_17 : decode cX3_withNails 17 = .ok (.iconst 0, 1) := by decide +kernel
theorem dX3_withNails_18 : decode cX3_withNails 18 = .ok (.istore 6, 2) := by decide +kernel
theorem dX3_withNails_20 : decode cX3_withNails 20 = .ok (.iload 6, 2) := by decide +kernel
theorem dX3_withNails_22 : decode cX3_withNails 22 = .ok (.iconst 3, 1) := by decide +kernel
theorem dX3_withNails_23 : decode cX3_withNails 23 = .ok (.if_icmp .gt 25, 3) := by decide +kernel
theorem dX3_withNails_26 : decode cX3_withNails 26 = .ok (.ldc2_w 250, 3) := by decide +kernel
theorem dX3_withNails_29 : decode cX3_withNails 29 = .ok (.lload_n 3, 1) := by decide +kernel
theorem dX3_withNails_30 : decode cX3_withNails 30 = .ok (.lmul, 1) := by decide +kernel
theorem dX3_withNails_31 : decode cX3_withNails 31 = .ok (.aload_n 0, 1) := by decide +kernel
theorem dX3_withNails_32 : decode cX3_withNails 32 = .ok (.iload 5, 2) := by decide +kernel
theorem dX3_withNails_34 : decode cX3_withNails 34 = .ok (.iload 6, 2) := by decide +kernel
theorem dX3_withNails_36 : decode cX3_withNails 36 = .ok (.invokevirtual 296, 3) := by decide +kernel
theorem dX3_withNails_39 : decode cX3_withNails 39 = .ok (.i2l, 1) := by decide +kernel
theorem dX3_withNails_40 : decode cX3_withNails 40 = .ok (.ladd, 1) := by decide +kernel
theorem dX3_withNails_41 : decode cX3_withNails 41 = .ok (.lstore_n 3, 1) := by decide +kernel
theorem dX3_withNails_42 : decode cX3_withNails 42 = .ok (.iinc 6 1, 3) := by decide +kernel
theorem dX3_withNails_45 : decode cX3_withNails 45 = .ok (.goto (-25), 3) := by decide +kernel
theorem dX3_withNails_48 : decode cX3_withNails 48 = .ok (.ldc2_w 250, 3) := by decide +kernel
theorem dX3_withNails_51 : decode cX3_withNails 51 = .ok (.lload_n 3, 1) := by decide +kernel
theorem dX3_withNails_52 : decode cX3_withNails 52 = .ok (.lmul, 1) := by decide +kernel
theorem dX3_withNails_53 : decode cX3_withNails 53 = .ok (.aload_n 0, 1) := by decide +kernel
theorem dX3_withNails_54 : decode cX3_withNails 54 = .ok (.iload 5, 2) := by decide +kernel
theorem dX3_withNails_56 : decode cX3_withNails 56 = .ok (.invokevirtual 299, 3) := by decide +kernel
theorem dX3_withNails_59 : decode cX3_withNails 59 = .ok (.i2l, 1) := by decide +kernel
theorem dX3_withNails_60 : decode cX3_withNails 60 = .ok (.ladd, 1) := by decide +kernel
theorem dX3_withNails_61 : decode cX3_withNails 61 = .ok (.lstore_n 3, 1) := by decide +kernel
theorem dX3_withNails_62 : decode cX3_withNails 62 = .ok (.ldc2_w 250, 3) := by decide +kernel
theorem dX3_withNails_65 : decode cX3_withNails 65 = .ok (.lload_n 3, 1) := by decide +kernel
theorem dX3_withNails_66 : decode cX3_withNails 66 = .ok (.lmul, 1) := by decide +kernel
theorem dX3_withNails_67 : decode cX3_withNails 67 = .ok (.aload_n 0, 1) := by decide +kernel
theorem dX3_withNails_68 : decode cX3_withNails 68 = .ok (.iload 5, 2) := by decide +kernel
theorem dX3_withNails_70 : decode cX3_withNails 70 = .ok (.invokevirtual 302, 3) := by decide +kernel
theorem dX3_withNails_73 : decode cX3_withNails 73 = .ok (.i2l, 1) := by decide +kernel
theorem dX3_withNails_74 : decode cX3_withNails 74 = .ok (.ladd, 1) := by decide +kernel
theorem dX3_withNails_75 : decode cX3_withNails 75 = .ok (.lstore_n 3, 1) := by decide +kernel
theorem dX3_withNails_76 : decode cX3_withNails 76 = .ok (.iinc 5 1, 3) := by decide +kernel
theorem dX3_withNails_79 : decode cX3_withNails 79 = .ok (.goto (-74), 3) := by decide +kernel
theorem dX3_withNails_82 : decode cX3_withNails 82 = .ok (.lload_n 3, 1) := by decide +kernel
theorem dX3_withNails_83 : decode cX3_withNails 83 = .ok (.lreturn, 1) := by decide +kernel
theorem dX3_withSpools_0 : decode cX3_withSpools 0 = .ok (.lload_n 1, 1) := by decide +kernel
theorem dX3_withSpools_1 : decode cX3_withSpools 1 = .ok (.lstore_n 3, 1) := by decide +kernel
theorem dX3_withSpools_2 : decode cX3_withSpools 2 = .ok (.iconst 0, 1) := by decide +kernel
theorem dX3_withSpools_3 : decode cX3_withSpools 3 = .ok (.istore 5, 2) := by decide +kernel
theorem dX3_withSpools_5 : decode cX3_withSpools 5 = .ok (.iload 5, 2) := by decide +kernel
theorem dX3_withSpools_7 : decode cX3_withSpools 7 = .ok (.iconst 3, 1) := by decide +kernel
theorem dX3_withSpools_8 : decode cX3_withSpools 8 = .ok (.if_icmp .ge 40, 3) := by decide +kernel
theorem dX3_withSpools_11 : decode cX3_withSpools 11 = .ok (.iconst 0, 1) := by decide +kernel
theorem dX3_withSpools_12 : decode cX3_withSpools 12 = .ok (.istore 6, 2) := by decide +kernel
theorem dX3_withSpools_14 : decode cX3_withSpools 14 = .ok (.iload 6, 2) := by decide +kernel
theorem dX3_withSpools_16 : decode cX3_withSpools 16 = .ok (.iconst 4, 1) := by decide +kernel
theorem dX3_withSpools_17 : decode cX3_withSpools 17 = .ok (.if_icmp .gt 25, 3) := by decide +kernel
theorem dX3_withSpools_20 : decode cX3_withSpools 20 = .ok (.ldc2_w 250, 3) := by decide +kernel
theorem dX3_withSpools_23 : decode cX3_withSpools 23 = .ok (.lload_n 3, 1) := by decide +kernel
theorem dX3_withSpools_24 : decode cX3_withSpools 24 = .ok (.lmul, 1) := by decide +kernel
theorem dX3_withSpools_25 : decode cX3_withSpools 25 = .ok (.aload_n 0, 1) := by decide +kernel
theorem dX3_withSpools_26 : decode cX3_withSpools 26 = .ok (.iload 5, 2) := by decide +kernel
theorem dX3_withSpools_28 : decode cX3_withSpools 28 = .ok (.iload 6, 2) := by decide +kernel
theorem dX3_withSpools_30 : decode cX3_withSpools 30 = .ok (.invokevirtual 305, 3) := by decide +kernel
theorem dX3_withSpools_33 : decode cX3_withSpools 33 = .ok (.i2l, 1) := by decide +kernel
theorem dX3_withSpools_34 : decode cX3_withSpools 34 = .ok (.ladd, 1) := by decide +kernel
theorem dX3_withSpools_35 : decode cX3_withSpools 35 = .ok (.lstore_n 3, 1) := by decide +kernel
theorem dX3_withSpools_36 : decode cX3_withSpools 36 = .ok (.iinc 6 1, 3) := by decide +kernel
theorem dX3_withSpools_39 : decode cX3_withSpools 39 = .ok (.goto (-25), 3) := by decide +kernel
theorem dX3_withSpools_42 : decode cX3_withSpools 42 = .ok (.iinc 5 1, 3) := by decide +kernel
theorem dX3_withSpools_45 : decode cX3_withSpools 45 = .ok (.goto (-40), 3) := by decide +kernel
theorem dX3_withSpools_48 : decode cX3_withSpools 48 = .ok (.lload_n 3, 1) := by decide +kernel
theorem dX3_withSpools_49 : decode cX3_withSpools 49 = .ok (.lreturn, 1) := by decide +kernel
theorem dX3_withChordsLying_0 : decode cX3_withChordsLying 0 = .ok (.lload_n 1, 1) := by decide +kernel
theorem dX3_withChordsLying_1 : decode cX3_withChordsLying 1 = .ok (.lstore_n 3, 1) := by decide +kernel
theorem dX3_withChordsLying_2 : decode cX3_withChordsLying 2 = .ok (.iconst 0, 1) := by decide +kernel
theorem dX3_withChordsLying_3 : decode cX3_withChordsLying 3 = .ok (.istore 5, 2) := by decide +kernel
theorem dX3_withChordsLying_5 : decode cX3_withChordsLying 5 = .ok (.iload 5, 2) := by decide +kernel
theorem dX3_withChordsLying_7 : decode cX3_withChordsLying 7 = .ok (.bipush 10, 2) := by decide +kernel
theorem dX3_withChordsLying_9 : decode cX3_withChordsLying 9 = .ok (.if_icmp .ge 40, 3) := by decide +kernel
theorem dX3_withChordsLying_12 : decode cX3_withChordsLying 12 = .ok (.iconst 0, 1) := by decide +kernel
theorem dX3_withChordsLying_13 : decode cX3_withChordsLying 13 = .ok (.istore 6, 2) := by decide +kernel
theorem dX3_withChordsLying_15 : decode cX3_withChordsLying 15 = .ok (.iload 6, 2) := by decide +kernel
theorem dX3_withChordsLying_17 : decode cX3_withChordsLying 17 = .ok (.iconst 2, 1) := by decide +kernel
theorem dX3_withChordsLying_18 : decode cX3_withChordsLying 18 = .ok (.if_icmp .gt 25, 3) := by decide +kernel
theorem dX3_withChordsLying_21 : decode cX3_withChordsLying 21 = .ok (.ldc2_w 250, 3) := by decide +kernel
theorem dX3_withChordsLying_24 : decode cX3_withChordsLying 24 = .ok (.lload_n 3, 1) := by decide +kernel
theorem dX3_withChordsLying_25 : decode cX3_withChordsLying 25 = .ok (.lmul, 1) := by decide +kernel
theorem dX3_withChordsLying_26 : decode cX3_withChordsLying 26 = .ok (.aload_n 0, 1) := by decide +kernel
theorem dX3_withChordsLying_27 : decode cX3_withChordsLying 27 = .ok (.iload 5, 2) := by decide +kernel
theorem dX3_withChordsLying_29 : decode cX3_withChordsLying 29 = .ok (.iload 6, 2) := by decide +kernel
theorem dX3_withChordsLying_31 : decode cX3_withChordsLying 31 = .ok (.invokevirtual 308, 3) := by decide +kernel
theorem dX3_withChordsLying_34 : decode cX3_withChordsLying 34 = .ok (.i2l, 1) := by decide +kernel
theorem dX3_withChordsLying_35 : decode cX3_withChordsLying 35 = .ok (.ladd, 1) := by decide +kernel
theorem dX3_withChordsLying_36 : decode cX3_withChordsLying 36 = .ok (.lstore_n 3, 1) := by decide +kernel
theorem dX3_withChordsLying_37 : decode cX3_withChordsLying 37 = .ok (.iinc 6 1, 3) := by decide +kernel
theorem dX3_withChordsLying_40 : decode cX3_withChordsLying 40 = .ok (.goto (-25), 3) := by decide +kernel
theorem dX3_withChordsLying_43 : decode cX3_withChordsLying 43 = .ok (.iinc 5 1, 3) := by decide +kernel
theorem dX3_withChordsLying_46 : decode cX3_withChordsLying 46 = .ok (.goto (-41), 3) := by decide +kernel
theorem dX3_withChordsLying_49 : decode cX3_withChordsLying 49 = .ok (.lload_n 3, 1) := by decide +kernel
theorem dX3_withChordsLying_50 : decode cX3_withChordsLying 50 = .ok (.lreturn, 1) := by decide +kernel
theorem dX3_withSquares_0 : decode cX3_withSquares 0 = .ok (.lload_n 1, 1) := by decide +kernel
theorem dX3_withSquares_1 : decode cX3_withSquares 1 = .ok (.lstore_n 3, 1) := by decide +kernel
theorem dX3_withSquares_2 : decode cX3_withSquares 2 = .ok (.iconst 0, 1) := by decide +kernel
theorem dX3_withSquares_3 : decode cX3_withSquares 3 = .ok (.istore 5, 2) := by decide +kernel
theorem dX3_withSquares_5 : decode cX3_withSquares 5 = .ok (.iload 5, 2) := by decide +kernel
theorem dX3_withSquares_7 : decode cX3_withSquares 7 = .ok (.bipush 12, 2) := by decide +kernel
theorem dX3_withSquares_9 : decode cX3_withSquares 9 = .ok (.if_icmp .ge 58, 3) := by decide +kernel
theorem dX3_withSquares_12 : decode cX3_withSquares 12 = .ok (.iconst 0, 1) := by decide +kernel
theorem dX3_withSquares_13 : decode cX3_withSquares 13 = .ok (.istore 6, 2) := by decide +kernel
theorem dX3_withSquares_15 : decode cX3_withSquares 15 = .ok (.iload 6, 2) := by decide +kernel
theorem dX3_withSquares_17 : decode cX3_withSquares 17 = .ok (.bipush 12, 2) := by decide +kernel
theorem dX3_withSquares_19 : decode cX3_withSquares 19 = .ok (.if_icmp .ge 42, 3) := by decide +kernel
theorem dX3_withSquares_22 : decode cX3_withSquares 22 = .ok (.iconst 0, 1) := by decide +kernel
theorem dX3_withSquares_23 : decode cX3_withSquares 23 = .ok (.istore 7, 2) := by decide +kernel
theorem dX3_withSquares_25 : decode cX3_withSquares 25 = .ok (.iload 7, 2) := by decide +kernel
theorem dX3_withSquares_27 : decode cX3_withSquares 27 = .ok (.iconst 3, 1) := by decide +kernel
theorem dX3_withSquares_28 : decode cX3_withSquares 28 = .ok (.if_icmp .gt 27, 3) := by decide +kernel
theorem dX3_withSquares_31 : decode cX3_withSquares 31 = .ok (.ldc2_w 250, 3) := by decide +kernel
theorem dX3_withSquares_34 : decode cX3_withSquares 34 = .ok (.lload_n 3, 1) := by decide +kernel
theorem dX3_withSquares_35 : decode cX3_withSquares 35 = .ok (.lmul, 1) := by decide +kernel
theorem dX3_withSquares_36 : decode cX3_withSquares 36 = .ok (.aload_n 0, 1) := by decide +kernel
theorem dX3_withSquares_37 : decode cX3_withSquares 37 = .ok (.iload 6, 2) := by decide +kernel
theorem dX3_withSquares_39 : decode cX3_withSquares 39 = .ok (.iload 5, 2) := by decide +kernel
theorem dX3_withSquares_41 : decode cX3_withSquares 41 = .ok (.iload 7, 2) := by decide +kernel
theorem dX3_withSquares_43 : decode cX3_withSquares 43 = .ok (.invokevirtual 311, 3) := by decide +kernel
theorem dX3_withSquares_46 : decode cX3_withSquares 46 = .ok (.i2l, 1) := by decide +kernel
theorem dX3_withSquares_47 : decode cX3_withSquares 47 = .ok (.ladd, 1) := by decide +kernel
theorem dX3_withSquares_48 : decode cX3_withSquares 48 = .ok (.lstore_n 3, 1) := by decide +kernel
theorem dX3_withSquares_49 : decode cX3_withSquares 49 = .ok (.iinc 7 1, 3) := by decide +kernel
theorem dX3_withSquares_52 : decode cX3_withSquares 52 = .ok (.goto (-27), 3) := by decide +kernel
theorem dX3_withSquares_55 : decode cX3_withSquares 55 = .ok (.iinc 6 1, 3) := by decide +kernel
theorem dX3_withSquares_58 : decode cX3_withSquares 58 = .ok (.goto (-43), 3) := by decide +kernel
theorem dX3_withSquares_61 : decode cX3_withSquares 61 = .ok (.iinc 5 1, 3) := by decide +kernel
theorem dX3_withSquares_64 : decode cX3_withSquares 64 = .ok (.goto (-59), 3) := by decide +kernel
theorem dX3_withSquares_67 : decode cX3_withSquares 67 = .ok (.lload_n 3, 1) := by decide +kernel
theorem dX3_withSquares_68 : decode cX3_withSquares 68 = .ok (.lreturn, 1) := by decide +kernel
theorem dX3_withChord_0 : decode cX3_withChord 0 = .ok (.lload_n 1, 1) := by decide +kernel
theorem dX3_withChord_1 : decode cX3_withChord 1 = .ok (.lstore 5, 2) := by decide +kernel
theorem dX3_withChord_3 : decode cX3_withChord 3 = .ok (.iconst 0, 1) := by decide +kernel
theorem dX3_withChord_4 : decode cX3_withChord 4 = .ok (.istore 7, 2) := by decide +kernel
theorem dX3_withChord_6 : decode cX3_withChord 6 = .ok (.iload 7, 2) := by decide +kernel
theorem dX3_withChord_8 : decode cX3_withChord 8 = .ok (.iconst 2, 1) := by decide +kernel
theorem dX3_withChord_9 : decode cX3_withChord 9 = .ok (.if_icmp .gt 28, 3) := by decide +kernel
theorem dX3_withChord_12 : decode cX3_withChord 12 = .ok (.ldc2_w 250, 3) := by decide +kernel
theorem dX3_withChord_15 : decode cX3_withChord 15 = .ok (.lload 5, 2) := by decide +kernel
theorem dX3_withChord_17 : decode cX3_withChord 17 = .ok (.lmul, 1) := by decide +kernel
theorem dX3_withChord_18 : decode cX3_withChord 18 = .ok (.aload_n 0, 1) := by decide +kernel
theorem dX3_withChord_19 : decode cX3_withChord 19 = .ok (.iload_n 3, 1) := by decide +kernel
theorem dX3_withChord_20 : decode cX3_withChord 20 = .ok (.iload 4, 2) := by decide +kernel
theorem dX3_withChord_22 : decode cX3_withChord 22 = .ok (.iload 7, 2) := by decide +kernel
theorem dX3_withChord_24 : decode cX3_withChord 24 = .ok (.invokevirtual 315, 3) := by decide +kernel
theorem dX3_withChord_27 : decode cX3_withChord 27 = .ok (.i2l, 1) := by decide +kernel
theorem dX3_withChord_28 : decode cX3_withChord 28 = .ok (.ladd, 1) := by decide +kernel
theorem dX3_withChord_29 : decode cX3_withChord 29 = .ok (.lstore 5, 2) := by decide +kernel
theorem dX3_withChord_31 : decode cX3_withChord 31 = .ok (.iinc 7 1, 3) := by decide +kernel
theorem dX3_withChord_34 : decode cX3_withChord 34 = .ok (.goto (-28), 3) := by decide +kernel
theorem dX3_withChord_37 : decode cX3_withChord 37 = .ok (.lload 5, 2) := by decide +kernel
theorem dX3_withChord_39 : decode cX3_withChord 39 = .ok (.lreturn, 1) := by decide +kernel
theorem dX3_bitsOf_0 : decode cX3_bitsOf 0 = .ok (.dload_n 0, 1) := by decide +kernel
theorem dX3_bitsOf_1 : decode cX3_bitsOf 1 = .ok (.dconst 0, 1) := by decide +kernel
theorem dX3_bitsOf_2 : decode cX3_bitsOf 2 = .ok (.dcmp .g, 1) := by decide +kernel
theorem dX3_bitsOf_3 : decode cX3_bitsOf 3 = .ok (.ifCond .gt 5, 3) := by decide +kernel
theorem dX3_bitsOf_6 : decode cX3_bitsOf 6 = .ok (.lconst 0, 1) := by decide +kernel
theorem dX3_bitsOf_7 : decode cX3_bitsOf 7 = .ok (.lreturn, 1) := by decide +kernel
theorem dX3_bitsOf_8 : decode cX3_bitsOf 8 = .ok (.dload_n 0, 1) := by decide +kernel
theorem dX3_bitsOf_9 : decode cX3_bitsOf 9 = .ok (.dstore_n 2, 1) := by decide +kernel
theorem dX3_bitsOf_10 : decode cX3_bitsOf 10 = .ok (.sipush 1023, 3) := by decide +kernel
theorem dX3_bitsOf_13 : decode cX3_bitsOf 13 = .ok (.istore 4, 2) := by decide +kernel
theorem dX3_bitsOf_15 : decode cX3_bitsOf 15 = .ok (.dload_n 2, 1) := by decide +kernel
theorem dX3_bitsOf_16 : decode cX3_bitsOf 16 = .ok (.dconst 1, 1) := by decide +kernel
theorem dX3_bitsOf_17 : decode cX3_bitsOf 17 = .ok (.dcmp .g, 1) := by decide +kernel
theorem dX3_bitsOf_18 : decode cX3_bitsOf 18 = .ok (.ifCond .ge 21, 3) := by decide +kernel
theorem dX3_bitsOf_21 : decode cX3_bitsOf 21 = .ok (.iload 4, 2) := by decide +kernel
theorem dX3_bitsOf_23 : decode cX3_bitsOf 23 = .ok (.iconst 1, 1) := by decide +kernel
theorem dX3_bitsOf_24 : decode cX3_bitsOf 24 = .ok (.if_icmp .le 15, 3) := by decide +kernel
theorem dX3_bitsOf_27 : decode cX3_bitsOf 27 = .ok (.dload_n 2, 1) := by decide +kernel
theorem dX3_bitsOf_28 : decode cX3_bitsOf 28 = .ok (.ldc2_w 318, 3) := by decide +kernel
theorem dX3_bitsOf_31 : decode cX3_bitsOf 31 = .ok (.dmul, 1) := by decide +kernel
theorem dX3_bitsOf_32 : decode cX3_bitsOf 32 = .ok (.dstore_n 2, 1) := by decide +kernel
theorem dX3_bitsOf_33 : decode cX3_bitsOf 33 = .ok (.iinc 4 (-1), 3) := by decide +kernel
theorem dX3_bitsOf_36 : decode cX3_bitsOf 36 = .ok (.goto (-21), 3) := by decide +kernel
theorem dX3_bitsOf_39 : decode cX3_bitsOf 39 = .ok (.iload 4, 2) := by decide +kernel
theorem dX3_bitsOf_41 : decode cX3_bitsOf 41 = .ok (.i2l, 1) := by decide +kernel
theorem dX3_bitsOf_42 : decode cX3_bitsOf 42 = .ok (.bipush 52, 2) := by decide +kernel
theorem dX3_bitsOf_44 : decode cX3_bitsOf 44 = .ok (.lshl, 1) := by decide +kernel
theorem dX3_bitsOf_45 : decode cX3_bitsOf 45 = .ok (.dload_n 2, 1) := by decide +kernel
theorem dX3_bitsOf_46 : decode cX3_bitsOf 46 = .ok (.dconst 1, 1) := by decide +kernel
theorem dX3_bitsOf_47 : decode cX3_bitsOf 47 = .ok (.dsub, 1) := by decide +kernel
theorem dX3_bitsOf_48 : decode cX3_bitsOf 48 = .ok (.ldc2_w 320, 3) := by decide +kernel
theorem dX3_bitsOf_51 : decode cX3_bitsOf 51 = .ok (.dmul, 1) := by decide +kernel
theorem dX3_bitsOf_52 : decode cX3_bitsOf 52 = .ok (.d2l, 1) := by decide +kernel
theorem dX3_bitsOf_53 : decode cX3_bitsOf 53 = .ok (.ladd, 1) := by decide +kernel
theorem dX3_bitsOf_54 : decode cX3_bitsOf 54 = .ok (.lreturn, 1) := by decide +kernel
theorem dX3_stepOf_0 : decode cX3_stepOf 0 = .ok (.iload_n 0, 1) := by decide +kernel
theorem dX3_stepOf_1 : decode cX3_stepOf 1 = .ok (.lookupswitch 62 #[(4, 51), (6, 54), (8, 56), (12, 58), (24, 60)], 51) := by decide +kernel
theorem dX3_stepOf_52 : decode cX3_stepOf 52 = .ok (.bipush 6, 2) := by decide +kernel
theorem dX3_stepOf_54 : decode cX3_stepOf 54 = .ok (.ireturn, 1) := by decide +kernel
theorem dX3_stepOf_55 : decode cX3_stepOf 55 = .ok (.iconst 4, 1) := by decide +kernel
theorem dX3_stepOf_56 : decode cX3_stepOf 56 = .ok (.ireturn, 1) := by decide +kernel
theorem dX3_stepOf_57 : decode cX3_stepOf 57 = .ok (.iconst 3, 1) := by decide +kernel
theorem dX3_stepOf_58 : decode cX3_stepOf 58 = .ok (.ireturn, 1) := by decide +kernel
theorem dX3_stepOf_59 : decode cX3_stepOf 59 = .ok (.iconst 2, 1) := by decide +kernel
theorem dX3_stepOf_60 : decode cX3_stepOf 60 = .ok (.ireturn, 1) := by decide +kernel
theorem dX3_stepOf_61 : decode cX3_stepOf 61 = .ok (.iconst 1, 1) := by decide +kernel
theorem dX3_stepOf_62 : decode cX3_stepOf 62 = .ok (.ireturn, 1) := by decide +kernel
theorem dX3_stepOf_63 : decode cX3_stepOf 63 = .ok (.iconst (-1), 1) := by decide +kernel
theorem dX3_stepOf_64 : decode cX3_stepOf 64 = .ok (.ireturn, 1) := by decide +kernel
theorem dX3_needNail_0 : decode cX3_needNail 0 = .ok (.iload_n 1, 1) := by decide +kernel
theorem dX3_needNail_1 : decode cX3_needNail 1 = .ok (.ifCond .lt 14, 3) := by decide +kernel
theorem dX3_needNail_4 : decode cX3_needNail 4 = .ok (.iload_n 1, 1) := by decide +kernel
theorem dX3_needNail_5 : decode cX3_needNail 5 = .ok (.aload_n 0, 1) := by decide +kernel
theorem dX3_needNail_6 : decode cX3_needNail 6 = .ok (.getfield 34, 3) := by decide +kernel
theorem dX3_needNail_9 : decode cX3_needNail 9 = .ok (.getfield 55, 3) := by decide +kernel
theorem dX3_needNail_12 : decode cX3_needNail 12 = .ok (.if_icmp .lt 14, 3) := by decide +kernel
theorem dX3_needNail_15 : decode cX3_needNail 15 = .ok (.new 322, 3) := by decide +kernel
theorem dX3_needNail_18 : decode cX3_needNail 18 = .ok (.dup, 1) := by decide +kernel
theorem dX3_needNail_19 : decode cX3_needNail 19 = .ok (.ldc_w 324, 3) := by decide +kernel
theorem dX3_needNail_22 : decode cX3_needNail 22 = .ok (.invokespecial 326, 3) := by decide +kernel
theorem dX3_needNail_25 : decode cX3_needNail 25 = .ok (.athrow, 1) := by decide +kernel
theorem dX3_needNail_26 : decode cX3_needNail 26 = .ok (.return_, 1) := by decide +kernel
theorem dX3_needSpool_0 : decode cX3_needSpool 0 = .ok (.iload_n 0, 1) := by decide +kernel
theorem dX3_needSpool_1 : decode cX3_needSpool 1 = .ok (.ifCond .lt 8, 3) := by decide +kernel
theorem dX3_needSpool_4 : decode cX3_needSpool 4 = .ok (.iload_n 0, 1) := by decide +kernel
theorem dX3_needSpool_5 : decode cX3_needSpool 5 = .ok (.iconst 3, 1) := by decide +kernel
theorem dX3_needSpool_6 : decode cX3_needSpool 6 = .ok (.if_icmp .lt 14, 3) := by decide +kernel
theorem dX3_needSpool_9 : decode cX3_needSpool 9 = .ok (.new 322, 3) := by decide +kernel
theorem dX3_needSpool_12 : decode cX3_needSpool 12 = .ok (.dup, 1) := by decide +kernel
theorem dX3_needSpool_13 : decode cX3_needSpool 13 = .ok (.ldc_w 327, 3) := by decide +kernel
theorem dX3_needSpool_16 : decode cX3_needSpool 16 = .ok (.invokespecial 326, 3) := by decide +kernel
theorem dX3_needSpool_19 : decode cX3_needSpool 19 = .ok (.athrow, 1) := by decide +kernel
theorem dX3_needSpool_20 : decode cX3_needSpool 20 = .ok (.return_, 1) := by decide +kernel
theorem dX3_needSetting_0 : decode cX3_needSetting 0 = .ok (.iload_n 0, 1) := by decide +kernel
theorem dX3_needSetting_1 : decode cX3_needSetting 1 = .ok (.ifCond .lt 8, 3) := by decide +kernel
theorem dX3_needSetting_4 : decode cX3_needSetting 4 = .ok (.iload_n 0, 1) := by decide +kernel
theorem dX3_needSetting_5 : decode cX3_needSetting 5 = .ok (.iconst 3, 1) := by decide +kernel
theorem dX3_needSetting_6 : decode cX3_needSetting 6 = .ok (.if_icmp .lt 14, 3) := by decide +kernel
theorem dX3_needSetting_9 : decode cX3_needSetting 9 = .ok (.new 322, 3) := by decide +kernel
theorem dX3_needSetting_12 : decode cX3_needSetting 12 = .ok (.dup, 1) := by decide +kernel
theorem dX3_needSetting_13 : decode cX3_needSetting 13 = .ok (.ldc_w 329, 3) := by decide +kernel
theorem dX3_needSetting_16 : decode cX3_needSetting 16 = .ok (.invokespecial 326, 3) := by decide +kernel
theorem dX3_needSetting_19 : decode cX3_needSetting 19 = .ok (.athrow, 1) := by decide +kernel
theorem dX3_needSetting_20 : decode cX3_needSetting 20 = .ok (.return_, 1) := by decide +kernel
theorem dX3_needSquare_0 : decode cX3_needSquare 0 = .ok (.iload_n 0, 1) := by decide +kernel
theorem dX3_needSquare_1 : decode cX3_needSquare 1 = .ok (.ifCond .lt 19, 3) := by decide +kernel
theorem dX3_needSquare_4 : decode cX3_needSquare 4 = .ok (.iload_n 0, 1) := by decide +kernel
theorem dX3_needSquare_5 : decode cX3_needSquare 5 = .ok (.bipush 12, 2) := by decide +kernel
theorem dX3_needSquare_7 : decode cX3_needSquare 7 = .ok (.if_icmp .ge 13, 3) := by decide +kernel
theorem dX3_needSquare_10 : decode cX3_needSquare 10 = .ok (.iload_n 1, 1) := by decide +kernel
theorem dX3_needSquare_11 : decode cX3_needSquare 11 = .ok (.ifCond .lt 9, 3) := by decide +kernel
theorem dX3_needSquare_14 : decode cX3_needSquare 14 = .ok (.iload_n 1, 1) := by decide +kernel
theorem dX3_needSquare_15 : decode cX3_needSquare 15 = .ok (.bipush 12, 2) := by decide +kernel
theorem dX3_needSquare_17 : decode cX3_needSquare 17 = .ok (.if_icmp .lt 14, 3) := by decide +kernel
theorem dX3_needSquare_20 : decode cX3_needSquare 20 = .ok (.new 322, 3) := by decide +kernel
theorem dX3_needSquare_23 : decode cX3_needSquare 23 = .ok (.dup, 1) := by decide +kernel
theorem dX3_needSquare_24 : decode cX3_needSquare 24 = .ok (.ldc_w 331, 3) := by decide +kernel
theorem dX3_needSquare_27 : decode cX3_needSquare 27 = .ok (.invokespecial 326, 3) := by decide +kernel
theorem dX3_needSquare_30 : decode cX3_needSquare 30 = .ok (.athrow, 1) := by decide +kernel
theorem dX3_needSquare_31 : decode cX3_needSquare 31 = .ok (.return_, 1) := by decide +kernel
theorem dX3_needRange_0 : decode cX3_needRange 0 = .ok (.iload_n 0, 1) := by decide +kernel
theorem dX3_needRange_1 : decode cX3_needRange 1 = .ok (.iload_n 1, 1) := by decide +kernel
theorem dX3_needRange_2 : decode cX3_needRange 2 = .ok (.if_icmp .lt 8, 3) := by decide +kernel
theorem dX3_needRange_5 : decode cX3_needRange 5 = .ok (.iload_n 0, 1) := by decide +kernel
theorem dX3_needRange_6 : decode cX3_needRange 6 = .ok (.iload_n 2, 1) := by decide +kernel
theorem dX3_needRange_7 : decode cX3_needRange 7 = .ok (.if_icmp .le 13, 3) := by decide +kernel
theorem dX3_needRange_10 : decode cX3_needRange 10 = .ok (.new 45, 3) := by decide +kernel
theorem dX3_needRange_13 : decode cX3_needRange 13 = .ok (.dup, 1) := by decide +kernel
theorem dX3_needRange_14 : decode cX3_needRange 14 = .ok (.ldc 216, 2) := by decide +kernel
theorem dX3_needRange_16 : decode cX3_needRange 16 = .ok (.invokespecial 49, 3) := by decide +kernel
theorem dX3_needRange_19 : decode cX3_needRange 19 = .ok (.athrow, 1) := by decide +kernel
theorem dX3_needRange_20 : decode cX3_needRange 20 = .ok (.return_, 1) := by decide +kernel
theorem dX3_save_0 : decode cX3_save 0 = .ok (.aload_n 0, 1) := by decide +kernel
theorem dX3_save_1 : decode cX3_save 1 = .ok (.getfield 187, 3) := by decide +kernel
theorem dX3_save_4 : decode cX3_save 4 = .ok (.bipush 6, 2) := by decide +kernel
theorem dX3_save_6 : decode cX3_save 6 = .ok (.if_icmp .lt 50, 3) := by decide +kernel
theorem dX3_save_9 : decode cX3_save 9 = .ok (.aload_n 0, 1) := by decide +kernel
theorem dX3_save_10 : decode cX3_save 10 = .ok (.getfield 26, 3) := by decide +kernel
theorem dX3_save_13 : decode cX3_save 13 = .ok (.iconst 0, 1) := by decide +kernel
theorem dX3_save_14 : decode cX3_save 14 = .ok (.aaload, 1) := by decide +kernel
theorem dX3_save_15 : decode cX3_save 15 = .ok (.astore_n 1, 1) := by decide +kernel
theorem dX3_save_16 : decode cX3_save 16 = .ok (.iconst 1, 1) := by decide +kernel
theorem dX3_save_17 : decode cX3_save 17 = .ok (.istore_n 2, 1) := by decide +kernel
theorem dX3_save_18 : decode cX3_save 18 = .ok (.iload_n 2, 1) := by decide +kernel
theorem dX3_save_19 : decode cX3_save 19 = .ok (.bipush 6, 2) := by decide +kernel
theorem dX3_save_21 : decode cX3_save 21 = .ok (.if_icmp .ge 23, 3) := by decide +kernel
theorem dX3_save_24 : decode cX3_save 24 = .ok (.aload_n 0, 1) := by decide +kernel
theorem dX3_save_25 : decode cX3_save 25 = .ok (.getfield 26, 3) := by decide +kernel
theorem dX3_save_28 : decode cX3_save 28 = .ok (.iload_n 2, 1) := by decide +kernel
theorem dX3_save_29 : decode cX3_save 29 = .ok (.iconst 1, 1) := by decide +kernel
theorem dX3_save_30 : decode cX3_save 30 = .ok (.isub, 1) := by decide +kernel
theorem dX3_save_31 : decode cX3_save 31 = .ok (.aload_n 0, 1) := by decide +kernel
theorem dX3_save_32 : decode cX3_save 32 = .ok (.getfield 26, 3) := by decide +kernel
theorem dX3_save_35 : decode cX3_save 35 = .ok (.iload_n 2, 1) := by decide +kernel
theorem dX3_save_36 : decode cX3_save 36 = .ok (.aaload, 1) := by decide +kernel
theorem dX3_save_37 : decode cX3_save 37 = .ok (.aastore, 1) := by decide +kernel
theorem dX3_save_38 : decode cX3_save 38 = .ok (.iinc 2 1, 3) := by decide +kernel
theorem dX3_save_41 : decode cX3_save 41 = .ok (.goto (-23), 3) := by decide +kernel
theorem dX3_save_44 : decode cX3_save 44 = .ok (.aload_n 0, 1) := by decide +kernel
theorem dX3_save_45 : decode cX3_save 45 = .ok (.getfield 26, 3) := by decide +kernel
theorem dX3_save_48 : decode cX3_save 48 = .ok (.iconst 5, 1) := by decide +kernel
theorem dX3_save_49 : decode cX3_save 49 = .ok (.aload_n 1, 1) := by decide +kernel
theorem dX3_save_50 : decode cX3_save 50 = .ok (.aastore, 1) := by decide +kernel
theorem dX3_save_51 : decode cX3_save 51 = .ok (.aload_n 0, 1) := by decide +kernel
theorem dX3_save_52 : decode cX3_save 52 = .ok (.iconst 5, 1) := by decide +kernel
theorem dX3_save_53 : decode cX3_save 53 = .ok (.putfield 187, 3) := by decide +kernel
theorem dX3_save_56 : decode cX3_save 56 = .ok (.aload_n 0, 1) := by decide +kernel
theorem dX3_save_57 : decode cX3_save 57 = .ok (.aload_n 0, 1) := by decide +kernel
theorem dX3_save_58 : decode cX3_save 58 = .ok (.getfield 26, 3) := by decide +kernel
theorem dX3_save_61 : decode cX3_save 61 = .ok (.aload_n 0, 1) := by decide +kernel
theorem dX3_save_62 : decode cX3_save 62 = .ok (.getfield 187, 3) := by decide +kernel
theorem dX3_save_65 : decode cX3_save 65 = .ok (.invokevirtual 177, 3) := by decide +kernel
theorem dX3_save_68 : decode cX3_save 68 = .ok (.aload_n 0, 1) := by decide +kernel
theorem dX3_save_69 : decode cX3_save 69 = .ok (.dup, 1) := by decide +kernel
theorem dX3_save_70 : decode cX3_save 70 = .ok (.getfield 187, 3) := by decide +kernel
theorem dX3_save_73 : decode cX3_save 73 = .ok (.iconst 1, 1) := by decide +kernel
theorem dX3_save_74 : decode cX3_save 74 = .ok (.iadd, 1) := by decide +kernel
theorem dX3_save_75 : decode cX3_save 75 = .ok (.putfield 187, 3) := by decide +kernel
theorem dX3_save_78 : decode cX3_save 78 = .ok (.return_, 1) := by decide +kernel
theorem dX3_copyTo_0 : decode cX3_copyTo 0 = .ok (.aload_n 1, 1) := by decide +kernel
theorem dX3_copyTo_1 : decode cX3_copyTo 1 = .ok (.iload_n 2, 1) := by decide +kernel
theorem dX3_copyTo_2 : decode cX3_copyTo 2 = .ok (.aaload, 1) := by decide +kernel
theorem dX3_copyTo_3 : decode cX3_copyTo 3 = .ok (.astore_n 3, 1) := by decide +kernel
theorem dX3_copyTo_4 : decode cX3_copyTo 4 = .ok (.aload_n 3, 1) := by decide +kernel
theorem dX3_copyTo_5 : decode cX3_copyTo 5 = .ok (.ifnonnull 22, 3) := by decide +kernel
theorem dX3_copyTo_8 : decode cX3_copyTo 8 = .ok (.new 20, 3) := by decide +kernel
theorem dX3_copyTo_11 : decode cX3_copyTo 11 = .ok (.dup, 1) := by decide +kernel
theorem dX3_copyTo_12 : decode cX3_copyTo 12 = .ok (.aload_n 0, 1) := by decide +kernel
theorem dX3_copyTo_13 : decode cX3_copyTo 13 = .ok (.getfield 34, 3) := by decide +kernel
theorem dX3_copyTo_16 : decode cX3_copyTo 16 = .ok (.getfield 333, 3) := by decide +kernel
theorem dX3_copyTo_19 : decode cX3_copyTo 19 = .ok (.invokespecial 31, 3) := by decide +kernel
theorem dX3_copyTo_22 : decode cX3_copyTo 22 = .ok (.astore_n 3, 1) := by decide +kernel
theorem dX3_copyTo_23 : decode cX3_copyTo 23 = .ok (.aload_n 1, 1) := by decide +kernel
theorem dX3_copyTo_24 : decode cX3_copyTo 24 = .ok (.iload_n 2, 1) := by decide +kernel
theorem dX3_copyTo_25 : decode cX3_copyTo 25 = .ok (.aload_n 3, 1) := by decide +kernel
theorem dX3_copyTo_26 : decode cX3_copyTo 26 = .ok (.aastore, 1) := by decide +kernel
theorem dX3_copyTo_27 : decode cX3_copyTo 27 = .ok (.aload_n 3, 1) := by decide +kernel
theorem dX3_copyTo_28 : decode cX3_copyTo 28 = .ok (.aload_n 0, 1) := by decide +kernel
theorem dX3_copyTo_29 : decode cX3_copyTo 29 = .ok (.getfield 34, 3) := by decide +kernel
theorem dX3_copyTo_32 : decode cX3_copyTo 32 = .ok (.invokevirtual 183, 3) := by decide +kernel
theorem dX3_copyTo_35 : decode cX3_copyTo 35 = .ok (.return_, 1) := by decide +kernel
