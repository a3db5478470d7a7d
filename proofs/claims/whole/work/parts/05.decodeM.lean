theorem d_Mo_init_0 : decode b_Mo_init 0 = .ok (.aload_n 0, 1) := by decide +kernel
theorem d_Mo_init_1 : decode b_Mo_init 1 = .ok (.invokespecial 1, 3) := by decide +kernel
theorem d_Mo_init_4 : decode b_Mo_init 4 = .ok (.aload_n 0, 1) := by decide +kernel
theorem d_Mo_init_5 : decode b_Mo_init 5 = .ok (.bipush (-3), 2) := by decide +kernel
theorem d_Mo_init_7 : decode b_Mo_init 7 = .ok (.putfield 7, 3) := by decide +kernel
theorem d_Mo_init_10 : decode b_Mo_init 10 = .ok (.aload_n 0, 1) := by decide +kernel
theorem d_Mo_init_11 : decode b_Mo_init 11 = .ok (.bipush 7, 2) := by decide +kernel
theorem d_Mo_init_13 : decode b_Mo_init 13 = .ok (.putfield 13, 3) := by decide +kernel
theorem d_Mo_init_16 : decode b_Mo_init 16 = .ok (.aload_n 0, 1) := by decide +kernel
theorem d_Mo_init_17 : decode b_Mo_init 17 = .ok (.bipush 96, 2) := by decide +kernel
theorem d_Mo_init_19 : decode b_Mo_init 19 = .ok (.newarray .int, 2) := by decide +kernel
theorem d_Mo_init_21 : decode b_Mo_init 21 = .ok (.putfield 16, 3) := by decide +kernel
theorem d_Mo_init_24 : decode b_Mo_init 24 = .ok (.aload_n 0, 1) := by decide +kernel
theorem d_Mo_init_25 : decode b_Mo_init 25 = .ok (.bipush 96, 2) := by decide +kernel
theorem d_Mo_init_27 : decode b_Mo_init 27 = .ok (.newarray .long, 2) := by decide +kernel
theorem d_Mo_init_29 : decode b_Mo_init 29 = .ok (.putfield 20, 3) := by decide +kernel
theorem d_Mo_init_32 : decode b_Mo_init 32 = .ok (.aload_n 0, 1) := by decide +kernel
theorem d_Mo_init_33 : decode b_Mo_init 33 = .ok (.bipush 96, 2) := by decide +kernel
theorem d_Mo_init_35 : decode b_Mo_init 35 = .ok (.newarray .long, 2) := by decide +kernel
theorem d_Mo_init_37 : decode b_Mo_init 37 = .ok (.putfield 24, 3) := by decide +kernel
theorem d_Mo_init_40 : decode b_Mo_init 40 = .ok (.aload_n 0, 1) := by decide +kernel
theorem d_Mo_init_41 : decode b_Mo_init 41 = .ok (.sipush 864, 3) := by decide +kernel
theorem d_Mo_init_44 : decode b_Mo_init 44 = .ok (.newarray .int, 2) := by decide +kernel
theorem d_Mo_init_46 : decode b_Mo_init 46 = .ok (.putfield 27, 3) := by decide +kernel
theorem d_Mo_init_49 : decode b_Mo_init 49 = .ok (.aload_n 0, 1) := by decide +kernel
theorem d_Mo_init_50 : decode b_Mo_init 50 = .ok (.sipush 864, 3) := by decide +kernel
theorem d_Mo_init_53 : decode b_Mo_init 53 = .ok (.newarray .int, 2) := by decide +kernel
theorem d_Mo_init_55 : decode b_Mo_init 55 = .ok (.putfield 30, 3) := by decide +kernel
theorem d_Mo_init_58 : decode b_Mo_init 58 = .ok (.aload_n 0, 1) := by decide +kernel
theorem d_Mo_init_59 : decode b_Mo_init 59 = .ok (.sipush 864, 3) := by decide +kernel
theorem d_Mo_init_62 : decode b_Mo_init 62 = .ok (.newarray .int, 2) := by decide +kernel
theorem d_Mo_init_64 : decode b_Mo_init 64 = .ok (.putfield 33, 3) := by decide +kernel
theorem d_Mo_init_67 : decode b_Mo_init 67 = .ok (.aload_n 0, 1) := by decide +kernel
theorem d_Mo_init_68 : decode b_Mo_init 68 = .ok (.sipush 864, 3) := by decide +kernel
theorem d_Mo_init_71 : decode b_Mo_init 71 = .ok (.newarray .int, 2) := by decide +kernel
theorem d_Mo_init_73 : decode b_Mo_init 73 = .ok (.putfield 36, 3) := by decide +kernel
theorem d_Mo_init_76 : decode b_Mo_init 76 = .ok (.aload_n 0, 1) := by decide +kernel
theorem d_Mo_init_77 : decode b_Mo_init 77 = .ok (.sipush 864, 3) := by decide +kernel
theorem d_Mo_init_80 : decode b_Mo_init 80 = .ok (.newarray .int, 2) := by decide +kernel
theorem d_Mo_init_82 : decode b_Mo_init 82 = .ok (.putfield 39, 3) := by decide +kernel
theorem d_Mo_init_85 : decode b_Mo_init 85 = .ok (.aload_n 0, 1) := by decide +kernel
theorem d_Mo_init_86 : decode b_Mo_init 86 = .ok (.sipush 864, 3) := by decide +kernel
theorem d_Mo_init_89 : decode b_Mo_init 89 = .ok (.newarray .int, 2) := by decide +kernel
theorem d_Mo_init_91 : decode b_Mo_init 91 = .ok (.putfield 42, 3) := by decide +kernel
theorem d_Mo_init_94 : decode b_Mo_init 94 = .ok (.aload_n 0, 1) := by decide +kernel
theorem d_Mo_init_95 : decode b_Mo_init 95 = .ok (.sipush 864, 3) := by decide +kernel
theorem d_Mo_init_98 : decode b_Mo_init 98 = .ok (.newarray .int, 2) := by decide +kernel
theorem d_Mo_init_100 : decode b_Mo_init 100 = .ok (.putfield 45, 3) := by decide +kernel
theorem d_Mo_init_103 : decode b_Mo_init 103 = .ok (.return_, 1) := by decide +kernel
theorem d_Mo_bounds_0 : decode b_Mo_bounds 0 = .ok (.aload_n 0, 1) := by decide +kernel
theorem d_Mo_bounds_1 : decode b_Mo_bounds 1 = .ok (.iconst 0, 1) := by decide +kernel
theorem d_Mo_bounds_2 : decode b_Mo_bounds 2 = .ok (.putfield 48, 3) := by decide +kernel
theorem d_Mo_bounds_5 : decode b_Mo_bounds 5 = .ok (.iload_n 1, 1) := by decide +kernel
theorem d_Mo_bounds_6 : decode b_Mo_bounds 6 = .ok (.bipush (-30), 2) := by decide +kernel
theorem d_Mo_bounds_8 : decode b_Mo_bounds 8 = .ok (.if_icmp .lt 18, 3) := by decide +kernel
theorem d_Mo_bounds_11 : decode b_Mo_bounds 11 = .ok (.iload_n 1, 1) := by decide +kernel
theorem d_Mo_bounds_12 : decode b_Mo_bounds 12 = .ok (.ifCond .gt 14, 3) := by decide +kernel
theorem d_Mo_bounds_15 : decode b_Mo_bounds 15 = .ok (.iload_n 2, 1) := by decide +kernel
theorem d_Mo_bounds_16 : decode b_Mo_bounds 16 = .ok (.iconst 1, 1) := by decide +kernel
theorem d_Mo_bounds_17 : decode b_Mo_bounds 17 = .ok (.if_icmp .lt 9, 3) := by decide +kernel
theorem d_Mo_bounds_20 : decode b_Mo_bounds 20 = .ok (.iload_n 2, 1) := by decide +kernel
theorem d_Mo_bounds_21 : decode b_Mo_bounds 21 = .ok (.bipush 30, 2) := by decide +kernel
theorem d_Mo_bounds_23 : decode b_Mo_bounds 23 = .ok (.if_icmp .le 5, 3) := by decide +kernel
theorem d_Mo_bounds_26 : decode b_Mo_bounds 26 = .ok (.iconst 0, 1) := by decide +kernel
theorem d_Mo_bounds_27 : decode b_Mo_bounds 27 = .ok (.ireturn, 1) := by decide +kernel
theorem d_Mo_bounds_28 : decode b_Mo_bounds 28 = .ok (.aload_n 0, 1) := by decide +kernel
theorem d_Mo_bounds_29 : decode b_Mo_bounds 29 = .ok (.iload_n 1, 1) := by decide +kernel
theorem d_Mo_bounds_30 : decode b_Mo_bounds 30 = .ok (.putfield 7, 3) := by decide +kernel
theorem d_Mo_bounds_33 : decode b_Mo_bounds 33 = .ok (.aload_n 0, 1) := by decide +kernel
theorem d_Mo_bounds_34 : decode b_Mo_bounds 34 = .ok (.iload_n 2, 1) := by decide +kernel
theorem d_Mo_bounds_35 : decode b_Mo_bounds 35 = .ok (.putfield 13, 3) := by decide +kernel
theorem d_Mo_bounds_38 : decode b_Mo_bounds 38 = .ok (.iconst 1, 1) := by decide +kernel
theorem d_Mo_bounds_39 : decode b_Mo_bounds 39 = .ok (.ireturn, 1) := by decide +kernel
theorem d_Mo_exponent_0 : decode b_Mo_exponent 0 = .ok (.aload_n 0, 1) := by decide +kernel
theorem d_Mo_exponent_1 : decode b_Mo_exponent 1 = .ok (.getfield 51, 3) := by decide +kernel
theorem d_Mo_exponent_4 : decode b_Mo_exponent 4 = .ok (.ifCond .eq 18, 3) := by decide +kernel
theorem d_Mo_exponent_7 : decode b_Mo_exponent 7 = .ok (.aload_n 0, 1) := by decide +kernel
theorem d_Mo_exponent_8 : decode b_Mo_exponent 8 = .ok (.getfield 55, 3) := by decide +kernel
theorem d_Mo_exponent_11 : decode b_Mo_exponent 11 = .ok (.bipush 52, 2) := by decide +kernel
theorem d_Mo_exponent_13 : decode b_Mo_exponent 13 = .ok (.lshr, 1) := by decide +kernel
theorem d_Mo_exponent_14 : decode b_Mo_exponent 14 = .ok (.l2i, 1) := by decide +kernel
theorem d_Mo_exponent_15 : decode b_Mo_exponent 15 = .ok (.sipush 2047, 3) := by decide +kernel
theorem d_Mo_exponent_18 : decode b_Mo_exponent 18 = .ok (.iand, 1) := by decide +kernel
theorem d_Mo_exponent_19 : decode b_Mo_exponent 19 = .ok (.goto 15, 3) := by decide +kernel
theorem d_Mo_exponent_22 : decode b_Mo_exponent 22 = .ok (.aload_n 0, 1) := by decide +kernel
theorem d_Mo_exponent_23 : decode b_Mo_exponent 23 = .ok (.getfield 55, 3) := by decide +kernel
theorem d_Mo_exponent_26 : decode b_Mo_exponent 26 = .ok (.bipush 23, 2) := by decide +kernel
theorem d_Mo_exponent_28 : decode b_Mo_exponent 28 = .ok (.lshr, 1) := by decide +kernel
theorem d_Mo_exponent_29 : decode b_Mo_exponent 29 = .ok (.l2i, 1) := by decide +kernel
theorem d_Mo_exponent_30 : decode b_Mo_exponent 30 = .ok (.sipush 255, 3) := by decide +kernel
theorem d_Mo_exponent_33 : decode b_Mo_exponent 33 = .ok (.iand, 1) := by decide +kernel
theorem d_Mo_exponent_34 : decode b_Mo_exponent 34 = .ok (.ireturn, 1) := by decide +kernel
theorem d_Mo_fraction_0 : decode b_Mo_fraction 0 = .ok (.aload_n 0, 1) := by decide +kernel
theorem d_Mo_fraction_1 : decode b_Mo_fraction 1 = .ok (.getfield 51, 3) := by decide +kernel
theorem d_Mo_fraction_4 : decode b_Mo_fraction 4 = .ok (.ifCond .eq 14, 3) := by decide +kernel
theorem d_Mo_fraction_7 : decode b_Mo_fraction 7 = .ok (.aload_n 0, 1) := by decide +kernel
theorem d_Mo_fraction_8 : decode b_Mo_fraction 8 = .ok (.getfield 55, 3) := by decide +kernel
theorem d_Mo_fraction_11 : decode b_Mo_fraction 11 = .ok (.ldc2_w 59, 3) := by decide +kernel
theorem d_Mo_fraction_14 : decode b_Mo_fraction 14 = .ok (.land, 1) := by decide +kernel
theorem d_Mo_fraction_15 : decode b_Mo_fraction 15 = .ok (.goto 11, 3) := by decide +kernel
theorem d_Mo_fraction_18 : decode b_Mo_fraction 18 = .ok (.aload_n 0, 1) := by decide +kernel
theorem d_Mo_fraction_19 : decode b_Mo_fraction 19 = .ok (.getfield 55, 3) := by decide +kernel
theorem d_Mo_fraction_22 : decode b_Mo_fraction 22 = .ok (.ldc2_w 61, 3) := by decide +kernel
theorem d_Mo_fraction_25 : decode b_Mo_fraction 25 = .ok (.land, 1) := by decide +kernel
theorem d_Mo_fraction_26 : decode b_Mo_fraction 26 = .ok (.lreturn, 1) := by decide +kernel
theorem d_Mo_isLast_0 : decode b_Mo_isLast 0 = .ok (.aload_n 0, 1) := by decide +kernel
theorem d_Mo_isLast_1 : decode b_Mo_isLast 1 = .ok (.invokevirtual 63, 3) := by decide +kernel
theorem d_Mo_isLast_4 : decode b_Mo_isLast 4 = .ok (.aload_n 0, 1) := by decide +kernel
theorem d_Mo_isLast_5 : decode b_Mo_isLast 5 = .ok (.getfield 51, 3) := by decide +kernel
theorem d_Mo_isLast_8 : decode b_Mo_isLast 8 = .ok (.ifCond .eq 9, 3) := by decide +kernel
theorem d_Mo_isLast_11 : decode b_Mo_isLast 11 = .ok (.sipush 2047, 3) := by decide +kernel
theorem d_Mo_isLast_14 : decode b_Mo_isLast 14 = .ok (.goto 6, 3) := by decide +kernel
theorem d_Mo_isLast_17 : decode b_Mo_isLast 17 = .ok (.sipush 255, 3) := by decide +kernel
theorem d_Mo_isLast_20 : decode b_Mo_isLast 20 = .ok (.if_icmp .ne 7, 3) := by decide +kernel
theorem d_Mo_isLast_23 : decode b_Mo_isLast 23 = .ok (.iconst 1, 1) := by decide +kernel
theorem d_Mo_isLast_24 : decode b_Mo_isLast 24 = .ok (.goto 4, 3) := by decide +kernel
theorem d_Mo_isLast_27 : decode b_Mo_isLast 27 = .ok (.iconst 0, 1) := by decide +kernel
theorem d_Mo_isLast_28 : decode b_Mo_isLast 28 = .ok (.ireturn, 1) := by decide +kernel
theorem d_Mo_minus_0 : decode b_Mo_minus 0 = .ok (.aload_n 0, 1) := by decide +kernel
theorem d_Mo_minus_1 : decode b_Mo_minus 1 = .ok (.iconst 0, 1) := by decide +kernel
theorem d_Mo_minus_2 : decode b_Mo_minus 2 = .ok (.putfield 48, 3) := by decide +kernel
theorem d_Mo_minus_5 : decode b_Mo_minus 5 = .ok (.aload_n 0, 1) := by decide +kernel
theorem d_Mo_minus_6 : decode b_Mo_minus 6 = .ok (.getfield 67, 3) := by decide +kernel
theorem d_Mo_minus_9 : decode b_Mo_minus 9 = .ok (.ifCond .eq 40, 3) := by decide +kernel
theorem d_Mo_minus_12 : decode b_Mo_minus 12 = .ok (.aload_n 0, 1) := by decide +kernel
theorem d_Mo_minus_13 : decode b_Mo_minus 13 = .ok (.getfield 51, 3) := by decide +kernel
theorem d_Mo_minus_16 : decode b_Mo_minus 16 = .ok (.ifCond .eq 15, 3) := by decide +kernel
theorem d_Mo_minus_19 : decode b_Mo_minus 19 = .ok (.aload_n 0, 1) := by decide +kernel
theorem d_Mo_minus_20 : decode b_Mo_minus 20 = .ok (.getfield 55, 3) := by decide +kernel
theorem d_Mo_minus_23 : decode b_Mo_minus 23 = .ok (.lconst 0, 1) := by decide +kernel
theorem d_Mo_minus_24 : decode b_Mo_minus 24 = .ok (.lcmp, 1) := by decide +kernel
theorem d_Mo_minus_25 : decode b_Mo_minus 25 = .ok (.ifCond .ge 24, 3) := by decide +kernel
theorem d_Mo_minus_28 : decode b_Mo_minus 28 = .ok (.goto 17, 3) := by decide +kernel
theorem d_Mo_minus_31 : decode b_Mo_minus 31 = .ok (.aload_n 0, 1) := by decide +kernel
theorem d_Mo_minus_32 : decode b_Mo_minus 32 = .ok (.getfield 55, 3) := by decide +kernel
theorem d_Mo_minus_35 : decode b_Mo_minus 35 = .ok (.bipush 31, 2) := by decide +kernel
theorem d_Mo_minus_37 : decode b_Mo_minus 37 = .ok (.lshr, 1) := by decide +kernel
theorem d_Mo_minus_38 : decode b_Mo_minus 38 = .ok (.lconst 1, 1) := by decide +kernel
theorem d_Mo_minus_39 : decode b_Mo_minus 39 = .ok (.land, 1) := by decide +kernel
theorem d_Mo_minus_40 : decode b_Mo_minus 40 = .ok (.lconst 1, 1) := by decide +kernel
theorem d_Mo_minus_41 : decode b_Mo_minus 41 = .ok (.lcmp, 1) := by decide +kernel
theorem d_Mo_minus_42 : decode b_Mo_minus 42 = .ok (.ifCond .ne 7, 3) := by decide +kernel
theorem d_Mo_minus_45 : decode b_Mo_minus 45 = .ok (.iconst 1, 1) := by decide +kernel
theorem d_Mo_minus_46 : decode b_Mo_minus 46 = .ok (.goto 4, 3) := by decide +kernel
theorem d_Mo_minus_49 : decode b_Mo_minus 49 = .ok (.iconst 0, 1) := by decide +kernel
theorem d_Mo_minus_50 : decode b_Mo_minus 50 = .ok (.ireturn, 1) := by decide +kernel
theorem d_Mo_kind_0 : decode b_Mo_kind 0 = .ok (.aload_n 0, 1) := by decide +kernel
theorem d_Mo_kind_1 : decode b_Mo_kind 1 = .ok (.iconst 0, 1) := by decide +kernel
theorem d_Mo_kind_2 : decode b_Mo_kind 2 = .ok (.putfield 48, 3) := by decide +kernel
theorem d_Mo_kind_5 : decode b_Mo_kind 5 = .ok (.aload_n 0, 1) := by decide +kernel
theorem d_Mo_kind_6 : decode b_Mo_kind 6 = .ok (.getfield 67, 3) := by decide +kernel
theorem d_Mo_kind_9 : decode b_Mo_kind 9 = .ok (.ifCond .ne 5, 3) := by decide +kernel
theorem d_Mo_kind_12 : decode b_Mo_kind 12 = .ok (.iconst 0, 1) := by decide +kernel
theorem d_Mo_kind_13 : decode b_Mo_kind 13 = .ok (.ireturn, 1) := by decide +kernel
theorem d_Mo_kind_14 : decode b_Mo_kind 14 = .ok (.aload_n 0, 1) := by decide +kernel
theorem d_Mo_kind_15 : decode b_Mo_kind 15 = .ok (.invokevirtual 70, 3) := by decide +kernel
theorem d_Mo_kind_18 : decode b_Mo_kind 18 = .ok (.ifCond .eq 18, 3) := by decide +kernel
theorem d_Mo_kind_21 : decode b_Mo_kind 21 = .ok (.aload_n 0, 1) := by decide +kernel
theorem d_Mo_kind_22 : decode b_Mo_kind 22 = .ok (.invokevirtual 74, 3) := by decide +kernel
theorem d_Mo_kind_25 : decode b_Mo_kind 25 = .ok (.lconst 0, 1) := by decide +kernel
theorem d_Mo_kind_26 : decode b_Mo_kind 26 = .ok (.lcmp, 1) := by decide +kernel
theorem d_Mo_kind_27 : decode b_Mo_kind 27 = .ok (.ifCond .eq 7, 3) := by decide +kernel
theorem d_Mo_kind_30 : decode b_Mo_kind 30 = .ok (.iconst 1, 1) := by decide +kernel
theorem d_Mo_kind_31 : decode b_Mo_kind 31 = .ok (.goto 4, 3) := by decide +kernel
theorem d_Mo_kind_34 : decode b_Mo_kind 34 = .ok (.iconst 2, 1) := by decide +kernel
theorem d_Mo_kind_35 : decode b_Mo_kind 35 = .ok (.ireturn, 1) := by decide +kernel
theorem d_Mo_kind_36 : decode b_Mo_kind 36 = .ok (.aload_n 0, 1) := by decide +kernel
theorem d_Mo_kind_37 : decode b_Mo_kind 37 = .ok (.invokevirtual 63, 3) := by decide +kernel
theorem d_Mo_kind_40 : decode b_Mo_kind 40 = .ok (.ifCond .ne 16, 3) := by decide +kernel
theorem d_Mo_kind_43 : decode b_Mo_kind 43 = .ok (.aload_n 0, 1) := by decide +kernel
theorem d_Mo_kind_44 : decode b_Mo_kind 44 = .ok (.invokevirtual 74, 3) := by decide +kernel
theorem d_Mo_kind_47 : decode b_Mo_kind 47 = .ok (.lconst 0, 1) := by decide +kernel
theorem d_Mo_kind_48 : decode b_Mo_kind 48 = .ok (.lcmp, 1) := by decide +kernel
theorem d_Mo_kind_49 : decode b_Mo_kind 49 = .ok (.ifCond .ne 7, 3) := by decide +kernel
theorem d_Mo_kind_52 : decode b_Mo_kind 52 = .ok (.iconst 3, 1) := by decide +kernel
theorem d_Mo_kind_53 : decode b_Mo_kind 53 = .ok (.goto 4, 3) := by decide +kernel
theorem d_Mo_kind_56 : decode b_Mo_kind 56 = .ok (.iconst 4, 1) := by decide +kernel
theorem d_Mo_kind_57 : decode b_Mo_kind 57 = .ok (.ireturn, 1) := by decide +kernel
theorem d_Mo_timesUnit_0 : decode b_Mo_timesUnit 0 = .ok (.lconst 0, 1) := by decide +kernel
theorem d_Mo_timesUnit_1 : decode b_Mo_timesUnit 1 = .ok (.lstore_n 3, 1) := by decide +kernel
theorem d_Mo_timesUnit_2 : decode b_Mo_timesUnit 2 = .ok (.iconst 0, 1) := by decide +kernel
theorem d_Mo_timesUnit_3 : decode b_Mo_timesUnit 3 = .ok (.istore 5, 2) := by decide +kernel
theorem d_Mo_timesUnit_5 : decode b_Mo_timesUnit 5 = .ok (.iload 5, 2) := by decide +kernel
theorem d_Mo_timesUnit_7 : decode b_Mo_timesUnit 7 = .ok (.bipush 96, 2) := by decide +kernel
theorem d_Mo_timesUnit_9 : decode b_Mo_timesUnit 9 = .ok (.if_icmp .ge 42, 3) := by decide +kernel
theorem d_Mo_timesUnit_12 : decode b_Mo_timesUnit 12 = .ok (.aload_n 0, 1) := by decide +kernel
theorem d_Mo_timesUnit_13 : decode b_Mo_timesUnit 13 = .ok (.getfield 20, 3) := by decide +kernel
theorem d_Mo_timesUnit_16 : decode b_Mo_timesUnit 16 = .ok (.iload 5, 2) := by decide +kernel
theorem d_Mo_timesUnit_18 : decode b_Mo_timesUnit 18 = .ok (.laload, 1) := by decide +kernel
theorem d_Mo_timesUnit_19 : decode b_Mo_timesUnit 19 = .ok (.lload_n 1, 1) := by decide +kernel
theorem d_Mo_timesUnit_20 : decode b_Mo_timesUnit 20 = .ok (.lmul, 1) := by decide +kernel
theorem d_Mo_timesUnit_21 : decode b_Mo_timesUnit 21 = .ok (.lload_n 3, 1) := by decide +kernel
theorem d_Mo_timesUnit_22 : decode b_Mo_timesUnit 22 = .ok (.ladd, 1) := by decide +kernel
theorem d_Mo_timesUnit_23 : decode b_Mo_timesUnit 23 = .ok (.lstore 6, 2) := by decide +kernel
theorem d_Mo_timesUnit_25 : decode b_Mo_timesUnit 25 = .ok (.aload_n 0, 1) := by decide +kernel
theorem d_Mo_timesUnit_26 : decode b_Mo_timesUnit 26 = .ok (.getfield 20, 3) := by decide +kernel
theorem d_Mo_timesUnit_29 : decode b_Mo_timesUnit 29 = .ok (.iload 5, 2) := by decide +kernel
theorem d_Mo_timesUnit_31 : decode b_Mo_timesUnit 31 = .ok (.lload 6, 2) := by decide +kernel
theorem d_Mo_timesUnit_33 : decode b_Mo_timesUnit 33 = .ok (.ldc2_w 78, 3) := by decide +kernel
theorem d_Mo_timesUnit_36 : decode b_Mo_timesUnit 36 = .ok (.lrem, 1) := by decide +kernel
theorem d_Mo_timesUnit_37 : decode b_Mo_timesUnit 37 = .ok (.lastore, 1) := by decide +kernel
theorem d_Mo_timesUnit_38 : decode b_Mo_timesUnit 38 = .ok (.lload 6, 2) := by decide +kernel
theorem d_Mo_timesUnit_40 : decode b_Mo_timesUnit 40 = .ok (.ldc2_w 78, 3) := by decide +kernel
theorem d_Mo_timesUnit_43 : decode b_Mo_timesUnit 43 = .ok (.ldiv, 1) := by decide +kernel
theorem d_Mo_timesUnit_44 : decode b_Mo_timesUnit 44 = .ok (.lstore_n 3, 1) := by decide +kernel
theorem d_Mo_timesUnit_45 : decode b_Mo_timesUnit 45 = .ok (.iinc 5 1, 3) := by decide +kernel
theorem d_Mo_timesUnit_48 : decode b_Mo_timesUnit 48 = .ok (.goto (-43), 3) := by decide +kernel
theorem d_Mo_timesUnit_51 : decode b_Mo_timesUnit 51 = .ok (.return_, 1) := by decide +kernel
theorem d_Mo_write_0 : decode b_Mo_write 0 = .ok (.lload_n 1, 1) := by decide +kernel
theorem d_Mo_write_1 : decode b_Mo_write 1 = .ok (.ldc2_w 78, 3) := by decide +kernel
theorem d_Mo_write_4 : decode b_Mo_write 4 = .ok (.ldiv, 1) := by decide +kernel
theorem d_Mo_write_5 : decode b_Mo_write 5 = .ok (.lstore 4, 2) := by decide +kernel
theorem d_Mo_write_7 : decode b_Mo_write 7 = .ok (.lload_n 1, 1) := by decide +kernel
theorem d_Mo_write_8 : decode b_Mo_write 8 = .ok (.ldc2_w 78, 3) := by decide +kernel
theorem d_Mo_write_11 : decode b_Mo_write 11 = .ok (.lrem, 1) := by decide +kernel
theorem d_Mo_write_12 : decode b_Mo_write 12 = .ok (.lstore 6, 2) := by decide +kernel
theorem d_Mo_write_14 : decode b_Mo_write 14 = .ok (.lconst 0, 1) := by decide +kernel
theorem d_Mo_write_15 : decode b_Mo_write 15 = .ok (.lstore 8, 2) := by decide +kernel
theorem d_Mo_write_17 : decode b_Mo_write 17 = .ok (.iconst 0, 1) := by decide +kernel
theorem d_Mo_write_18 : decode b_Mo_write 18 = .ok (.istore 10, 2) := by decide +kernel
theorem d_Mo_write_20 : decode b_Mo_write 20 = .ok (.iload 10, 2) := by decide +kernel
theorem d_Mo_write_22 : decode b_Mo_write 22 = .ok (.bipush 96, 2) := by decide +kernel
theorem d_Mo_write_24 : decode b_Mo_write 24 = .ok (.if_icmp .ge 45, 3) := by decide +kernel
theorem d_Mo_write_27 : decode b_Mo_write 27 = .ok (.aload_n 0, 1) := by decide +kernel
theorem d_Mo_write_28 : decode b_Mo_write 28 = .ok (.getfield 20, 3) := by decide +kernel
theorem d_Mo_write_31 : decode b_Mo_write 31 = .ok (.iload 10, 2) := by decide +kernel
theorem d_Mo_write_33 : decode b_Mo_write 33 = .ok (.laload, 1) := by decide +kernel
theorem d_Mo_write_34 : decode b_Mo_write 34 = .ok (.lload 6, 2) := by decide +kernel
theorem d_Mo_write_36 : decode b_Mo_write 36 = .ok (.lmul, 1) := by decide +kernel
theorem d_Mo_write_37 : decode b_Mo_write 37 = .ok (.lload 8, 2) := by decide +kernel
theorem d_Mo_write_39 : decode b_Mo_write 39 = .ok (.ladd, 1) := by decide +kernel
theorem d_Mo_write_40 : decode b_Mo_write 40 = .ok (.lstore 11, 2) := by decide +kernel
theorem d_Mo_write_42 : decode b_Mo_write 42 = .ok (.aload_n 0, 1) := by decide +kernel
theorem d_Mo_write_43 : decode b_Mo_write 43 = .ok (.getfield 24, 3) := by decide +kernel
theorem d_Mo_write_46 : decode b_Mo_write 46 = .ok (.iload 10, 2) := by decide +kernel
theorem d_Mo_write_48 : decode b_Mo_write 48 = .ok (.lload 11, 2) := by decide +kernel
theorem d_Mo_write_50 : decode b_Mo_write 50 = .ok (.ldc2_w 78, 3) := by decide +kernel
theorem d_Mo_write_53 : decode b_Mo_write 53 = .ok (.lrem, 1) := by decide +kernel
theorem d_Mo_write_54 : decode b_Mo_write 54 = .ok (.lastore, 1) := by decide +kernel
theorem d_Mo_write_55 : decode b_Mo_write 55 = .ok (.lload 11, 2) := by decide +kernel
theorem d_Mo_write_57 : decode b_Mo_write 57 = .ok (.ldc2_w 78, 3) := by decide +kernel
theorem d_Mo_write_60 : decode b_Mo_write 60 = .ok (.ldiv, 1) := by decide +kernel
theorem d_Mo_write_61 : decode b_Mo_write 61 = .ok (.lstore 8, 2) := by decide +kernel
theorem d_Mo_write_63 : decode b_Mo_write 63 = .ok (.iinc 10 1, 3) := by decide +kernel
theorem d_Mo_write_66 : decode b_Mo_write 66 = .ok (.goto (-46), 3) := by decide +kernel
theorem d_Mo_write_69 : decode b_Mo_write 69 = .ok (.lconst 0, 1) := by decide +kernel
theorem d_Mo_write_70 : decode b_Mo_write 70 = .ok (.lstore 8, 2) := by decide +kernel
theorem d_Mo_write_72 : decode b_Mo_write 72 = .ok (.iconst 1, 1) := by decide +kernel
theorem d_Mo_write_73 : decode b_Mo_write 73 = .ok (.istore 10, 2) := by decide +kernel
theorem d_Mo_write_75 : decode b_Mo_write 75 = .ok (.iload 10, 2) := by decide +kernel
theorem d_Mo_write_77 : decode b_Mo_write 77 = .ok (.bipush 96, 2) := by decide +kernel
theorem d_Mo_write_79 : decode b_Mo_write 79 = .ok (.if_icmp .ge 55, 3) := by decide +kernel
theorem d_Mo_write_82 : decode b_Mo_write 82 = .ok (.aload_n 0, 1) := by decide +kernel
theorem d_Mo_write_83 : decode b_Mo_write 83 = .ok (.getfield 24, 3) := by decide +kernel
theorem d_Mo_write_86 : decode b_Mo_write 86 = .ok (.iload 10, 2) := by decide +kernel
theorem d_Mo_write_88 : decode b_Mo_write 88 = .ok (.laload, 1) := by decide +kernel
theorem d_Mo_write_89 : decode b_Mo_write 89 = .ok (.aload_n 0, 1) := by decide +kernel
theorem d_Mo_write_90 : decode b_Mo_write 90 = .ok (.getfield 20, 3) := by decide +kernel
theorem d_Mo_write_93 : decode b_Mo_write 93 = .ok (.iload 10, 2) := by decide +kernel
theorem d_Mo_write_95 : decode b_Mo_write 95 = .ok (.iconst 1, 1) := by decide +kernel
theorem d_Mo_write_96 : decode b_Mo_write 96 = .ok (.isub, 1) := by decide +kernel
theorem d_Mo_write_97 : decode b_Mo_write 97 = .ok (.laload, 1) := by decide +kernel
theorem d_Mo_write_98 : decode b_Mo_write 98 = .ok (.lload 4, 2) := by decide +kernel
theorem d_Mo_write_100 : decode b_Mo_write 100 = .ok (.lmul, 1) := by decide +kernel
theorem d_Mo_write_101 : decode b_Mo_write 101 = .ok (.ladd, 1) := by decide +kernel
theorem d_Mo_write_102 : decode b_Mo_write 102 = .ok (.lload 8, 2) := by decide +kernel
theorem d_Mo_write_104 : decode b_Mo_write 104 = .ok (.ladd, 1) := by decide +kernel
theorem d_Mo_write_105 : decode b_Mo_write 105 = .ok (.lstore 11, 2) := by decide +kernel
theorem d_Mo_write_107 : decode b_Mo_write 107 = .ok (.aload_n 0, 1) := by decide +kernel
theorem d_Mo_write_108 : decode b_Mo_write 108 = .ok (.getfield 24, 3) := by decide +kernel
theorem d_Mo_write_111 : decode b_Mo_write 111 = .ok (.iload 10, 2) := by decide +kernel
theorem d_Mo_write_113 : decode b_Mo_write 113 = .ok (.lload 11, 2) := by decide +kernel
theorem d_Mo_write_115 : decode b_Mo_write 115 = .ok (.ldc2_w 78, 3) := by decide +kernel
theorem d_Mo_write_118 : decode b_Mo_write 118 = .ok (.lrem, 1) := by decide +kernel
theorem d_Mo_write_119 : decode b_Mo_write 119 = .ok (.lastore, 1) := by decide +kernel
theorem d_Mo_write_120 : decode b_Mo_write 120 = .ok (.lload 11, 2) := by decide +kernel
theorem d_Mo_write_122 : decode b_Mo_write 122 = .ok (.ldc2_w 78, 3) := by decide +kernel
theorem d_Mo_write_125 : decode b_Mo_write 125 = .ok (.ldiv, 1) := by decide +kernel
theorem d_Mo_write_126 : decode b_Mo_write 126 = .ok (.lstore 8, 2) := by decide +kernel
theorem d_Mo_write_128 : decode b_Mo_write 128 = .ok (.iinc 10 1, 3) := by decide +kernel
theorem d_Mo_write_131 : decode b_Mo_write 131 = .ok (.goto (-56), 3) := by decide +kernel
theorem d_Mo_write_134 : decode b_Mo_write 134 = .ok (.iconst 0, 1) := by decide +kernel
theorem d_Mo_write_135 : decode b_Mo_write 135 = .ok (.istore 10, 2) := by decide +kernel
theorem d_Mo_write_137 : decode b_Mo_write 137 = .ok (.iload 10, 2) := by decide +kernel
theorem d_Mo_write_139 : decode b_Mo_write 139 = .ok (.bipush 96, 2) := by decide +kernel
theorem d_Mo_write_141 : decode b_Mo_write 141 = .ok (.if_icmp .ge 57, 3) := by decide +kernel
theorem d_Mo_write_144 : decode b_Mo_write 144 = .ok (.aload_n 0, 1) := by decide +kernel
theorem d_Mo_write_145 : decode b_Mo_write 145 = .ok (.getfield 24, 3) := by decide +kernel
theorem d_Mo_write_148 : decode b_Mo_write 148 = .ok (.iload 10, 2) := by decide +kernel
theorem d_Mo_write_150 : decode b_Mo_write 150 = .ok (.laload, 1) := by decide +kernel
theorem d_Mo_write_151 : decode b_Mo_write 151 = .ok (.l2i, 1) := by decide +kernel
theorem d_Mo_write_152 : decode b_Mo_write 152 = .ok (.istore 11, 2) := by decide +kernel
theorem d_Mo_write_154 : decode b_Mo_write 154 = .ok (.iconst 0, 1) := by decide +kernel
theorem d_Mo_write_155 : decode b_Mo_write 155 = .ok (.istore 12, 2) := by decide +kernel
theorem d_Mo_write_157 : decode b_Mo_write 157 = .ok (.iload 12, 2) := by decide +kernel
theorem d_Mo_write_159 : decode b_Mo_write 159 = .ok (.bipush 9, 2) := by decide +kernel
theorem d_Mo_write_161 : decode b_Mo_write 161 = .ok (.if_icmp .ge 31, 3) := by decide +kernel
theorem d_Mo_write_164 : decode b_Mo_write 164 = .ok (.aload_n 3, 1) := by decide +kernel
theorem d_Mo_write_165 : decode b_Mo_write 165 = .ok (.bipush 9, 2) := by decide +kernel
theorem d_Mo_write_167 : decode b_Mo_write 167 = .ok (.iload 10, 2) := by decide +kernel
theorem d_Mo_write_169 : decode b_Mo_write 169 = .ok (.imul, 1) := by decide +kernel
theorem d_Mo_write_170 : decode b_Mo_write 170 = .ok (.iload 12, 2) := by decide +kernel
theorem d_Mo_write_172 : decode b_Mo_write 172 = .ok (.iadd, 1) := by decide +kernel
theorem d_Mo_write_173 : decode b_Mo_write 173 = .ok (.iload 11, 2) := by decide +kernel
theorem d_Mo_write_175 : decode b_Mo_write 175 = .ok (.bipush 10, 2) := by decide +kernel
theorem d_Mo_write_177 : decode b_Mo_write 177 = .ok (.irem, 1) := by decide +kernel
theorem d_Mo_write_178 : decode b_Mo_write 178 = .ok (.iastore, 1) := by decide +kernel
theorem d_Mo_write_179 : decode b_Mo_write 179 = .ok (.iload 11, 2) := by decide +kernel
theorem d_Mo_write_181 : decode b_Mo_write 181 = .ok (.bipush 10, 2) := by decide +kernel
theorem d_Mo_write_183 : decode b_Mo_write 183 = .ok (.idiv, 1) := by decide +kernel
theorem d_Mo_write_184 : decode b_Mo_write 184 = .ok (.istore 11, 2) := by decide +kernel
theorem d_Mo_write_186 : decode b_Mo_write 186 = .ok (.iinc 12 1, 3) := by decide +kernel
theorem d_Mo_write_189 : decode b_Mo_write 189 = .ok (.goto (-32), 3) := by decide +kernel
theorem d_Mo_write_192 : decode b_Mo_write 192 = .ok (.iinc 10 1, 3) := by decide +kernel
theorem d_Mo_write_195 : decode b_Mo_write 195 = .ok (.goto (-58), 3) := by decide +kernel
theorem d_Mo_write_198 : decode b_Mo_write 198 = .ok (.return_, 1) := by decide +kernel
theorem d_Mo_spread_0 : decode b_Mo_spread 0 = .ok (.aload_n 0, 1) := by decide +kernel
theorem d_Mo_spread_1 : decode b_Mo_spread 1 = .ok (.invokevirtual 63, 3) := by decide +kernel
theorem d_Mo_spread_4 : decode b_Mo_spread 4 = .ok (.istore_n 1, 1) := by decide +kernel
theorem d_Mo_spread_5 : decode b_Mo_spread 5 = .ok (.aload_n 0, 1) := by decide +kernel
theorem d_Mo_spread_6 : decode b_Mo_spread 6 = .ok (.invokevirtual 74, 3) := by decide +kernel
theorem d_Mo_spread_9 : decode b_Mo_spread 9 = .ok (.lstore_n 2, 1) := by decide +kernel
theorem d_Mo_spread_10 : decode b_Mo_spread 10 = .ok (.iload_n 1, 1) := by decide +kernel
theorem d_Mo_spread_11 : decode b_Mo_spread 11 = .ok (.ifCond .ne 7, 3) := by decide +kernel
theorem d_Mo_spread_14 : decode b_Mo_spread 14 = .ok (.lload_n 2, 1) := by decide +kernel
theorem d_Mo_spread_15 : decode b_Mo_spread 15 = .ok (.goto 21, 3) := by decide +kernel
theorem d_Mo_spread_18 : decode b_Mo_spread 18 = .ok (.lload_n 2, 1) := by decide +kernel
theorem d_Mo_spread_19 : decode b_Mo_spread 19 = .ok (.aload_n 0, 1) := by decide +kernel
theorem d_Mo_spread_20 : decode b_Mo_spread 20 = .ok (.getfield 51, 3) := by decide +kernel
theorem d_Mo_spread_23 : decode b_Mo_spread 23 = .ok (.ifCond .eq 9, 3) := by decide +kernel
theorem d_Mo_spread_26 : decode b_Mo_spread 26 = .ok (.ldc2_w 80, 3) := by decide +kernel
theorem d_Mo_spread_29 : decode b_Mo_spread 29 = .ok (.goto 6, 3) := by decide +kernel
theorem d_Mo_spread_32 : decode b_Mo_spread 32 = .ok (.ldc2_w 82, 3) := by decide +kernel
theorem d_Mo_spread_35 : decode b_Mo_spread 35 = .ok (.ladd, 1) := by decide +kernel
theorem d_Mo_spread_36 : decode b_Mo_spread 36 = .ok (.lstore 4, 2) := by decide +kernel
theorem d_Mo_spread_38 : decode b_Mo_spread 38 = .ok (.iload_n 1, 1) := by decide +kernel
theorem d_Mo_spread_39 : decode b_Mo_spread 39 = .ok (.ifCond .ne 7, 3) := by decide +kernel
theorem d_Mo_spread_42 : decode b_Mo_spread 42 = .ok (.iconst 1, 1) := by decide +kernel
theorem d_Mo_spread_43 : decode b_Mo_spread 43 = .ok (.goto 4, 3) := by decide +kernel
theorem d_Mo_spread_46 : decode b_Mo_spread 46 = .ok (.iload_n 1, 1) := by decide +kernel
theorem d_Mo_spread_47 : decode b_Mo_spread 47 = .ok (.aload_n 0, 1) := by decide +kernel
theorem d_Mo_spread_48 : decode b_Mo_spread 48 = .ok (.getfield 51, 3) := by decide +kernel
theorem d_Mo_spread_51 : decode b_Mo_spread 51 = .ok (.ifCond .eq 9, 3) := by decide +kernel
theorem d_Mo_spread_54 : decode b_Mo_spread 54 = .ok (.sipush 1077, 3) := by decide +kernel
theorem d_Mo_spread_57 : decode b_Mo_spread 57 = .ok (.goto 6, 3) := by decide +kernel
theorem d_Mo_spread_60 : decode b_Mo_spread 60 = .ok (.sipush 152, 3) := by decide +kernel
theorem d_Mo_spread_63 : decode b_Mo_spread 63 = .ok (.isub, 1) := by decide +kernel
theorem d_Mo_spread_64 : decode b_Mo_spread 64 = .ok (.istore 6, 2) := by decide +kernel
theorem d_Mo_spread_66 : decode b_Mo_spread 66 = .ok (.iconst 0, 1) := by decide +kernel
theorem d_Mo_spread_67 : decode b_Mo_spread 67 = .ok (.istore 7, 2) := by decide +kernel
theorem d_Mo_spread_69 : decode b_Mo_spread 69 = .ok (.iload 7, 2) := by decide +kernel
theorem d_Mo_spread_71 : decode b_Mo_spread 71 = .ok (.bipush 96, 2) := by decide +kernel
theorem d_Mo_spread_73 : decode b_Mo_spread 73 = .ok (.if_icmp .ge 17, 3) := by decide +kernel
theorem d_Mo_spread_76 : decode b_Mo_spread 76 = .ok (.aload_n 0, 1) := by decide +kernel
theorem d_Mo_spread_77 : decode b_Mo_spread 77 = .ok (.getfield 20, 3) := by decide +kernel
theorem d_Mo_spread_80 : decode b_Mo_spread 80 = .ok (.iload 7, 2) := by decide +kernel
theorem d_Mo_spread_82 : decode b_Mo_spread 82 = .ok (.lconst 0, 1) := by decide +kernel
theorem d_Mo_spread_83 : decode b_Mo_spread 83 = .ok (.lastore, 1) := by decide +kernel
theorem d_Mo_spread_84 : decode b_Mo_spread 84 = .ok (.iinc 7 1, 3) := by decide +kernel
theorem d_Mo_spread_87 : decode b_Mo_spread 87 = .ok (.goto (-18), 3) := by decide +kernel
theorem d_Mo_spread_90 : decode b_Mo_spread 90 = .ok (.aload_n 0, 1) := by decide +kernel
theorem d_Mo_spread_91 : decode b_Mo_spread 91 = .ok (.getfield 20, 3) := by decide +kernel
theorem d_Mo_spread_94 : decode b_Mo_spread 94 = .ok (.iconst 0, 1) := by decide +kernel
theorem d_Mo_spread_95 : decode b_Mo_spread 95 = .ok (.ldc2_w 84, 3) := by decide +kernel
theorem d_Mo_spread_98 : decode b_Mo_spread 98 = .ok (.lastore, 1) := by decide +kernel
theorem d_Mo_spread_99 : decode b_Mo_spread 99 = .ok (.iconst 0, 1) := by decide +kernel
theorem d_Mo_spread_100 : decode b_Mo_spread 100 = .ok (.istore 7, 2) := by decide +kernel
theorem d_Mo_spread_102 : decode b_Mo_spread 102 = .ok (.iload 7, 2) := by decide +kernel
theorem d_Mo_spread_104 : decode b_Mo_spread 104 = .ok (.iload 6, 2) := by decide +kernel
theorem d_Mo_spread_106 : decode b_Mo_spread 106 = .ok (.if_icmp .ge 16, 3) := by decide +kernel
theorem d_Mo_spread_109 : decode b_Mo_spread 109 = .ok (.aload_n 0, 1) := by decide +kernel
theorem d_Mo_spread_110 : decode b_Mo_spread 110 = .ok (.ldc2_w 86, 3) := by decide +kernel
theorem d_Mo_spread_113 : decode b_Mo_spread 113 = .ok (.invokevirtual 88, 3) := by decide +kernel
theorem d_Mo_spread_116 : decode b_Mo_spread 116 = .ok (.iinc 7 1, 3) := by decide +kernel
theorem d_Mo_spread_119 : decode b_Mo_spread 119 = .ok (.goto (-17), 3) := by decide +kernel
theorem d_Mo_spread_122 : decode b_Mo_spread 122 = .ok (.iload 6, 2) := by decide +kernel
theorem d_Mo_spread_124 : decode b_Mo_spread 124 = .ok (.ifCond .ge 9, 3) := by decide +kernel
theorem d_Mo_spread_127 : decode b_Mo_spread 127 = .ok (.iload 6, 2) := by decide +kernel
theorem d_Mo_spread_129 : decode b_Mo_spread 129 = .ok (.ineg, 1) := by decide +kernel
theorem d_Mo_spread_130 : decode b_Mo_spread 130 = .ok (.goto 4, 3) := by decide +kernel
theorem d_Mo_spread_133 : decode b_Mo_spread 133 = .ok (.iconst 0, 1) := by decide +kernel
theorem d_Mo_spread_134 : decode b_Mo_spread 134 = .ok (.istore 7, 2) := by decide +kernel
theorem d_Mo_spread_136 : decode b_Mo_spread 136 = .ok (.iconst 0, 1) := by decide +kernel
theorem d_Mo_spread_137 : decode b_Mo_spread 137 = .ok (.istore 8, 2) := by decide +kernel
theorem d_Mo_spread_139 : decode b_Mo_spread 139 = .ok (.iload 8, 2) := by decide +kernel
theorem d_Mo_spread_141 : decode b_Mo_spread 141 = .ok (.iload 7, 2) := by decide +kernel
theorem d_Mo_spread_143 : decode b_Mo_spread 143 = .ok (.bipush 12, 2) := by decide +kernel
theorem d_Mo_spread_145 : decode b_Mo_spread 145 = .ok (.idiv, 1) := by decide +kernel
theorem d_Mo_spread_146 : decode b_Mo_spread 146 = .ok (.if_icmp .ge 16, 3) := by decide +kernel
theorem d_Mo_spread_149 : decode b_Mo_spread 149 = .ok (.aload_n 0, 1) := by decide +kernel
theorem d_Mo_spread_150 : decode b_Mo_spread 150 = .ok (.ldc2_w 92, 3) := by decide +kernel
theorem d_Mo_spread_153 : decode b_Mo_spread 153 = .ok (.invokevirtual 88, 3) := by decide +kernel
theorem d_Mo_spread_156 : decode b_Mo_spread 156 = .ok (.iinc 8 1, 3) := by decide +kernel
theorem d_Mo_spread_159 : decode b_Mo_spread 159 = .ok (.goto (-20), 3) := by decide +kernel
theorem d_Mo_spread_162 : decode b_Mo_spread 162 = .ok (.iconst 0, 1) := by decide +kernel
theorem d_Mo_spread_163 : decode b_Mo_spread 163 = .ok (.istore 8, 2) := by decide +kernel
theorem d_Mo_spread_165 : decode b_Mo_spread 165 = .ok (.iload 8, 2) := by decide +kernel
theorem d_Mo_spread_167 : decode b_Mo_spread 167 = .ok (.iload 7, 2) := by decide +kernel
theorem d_Mo_spread_169 : decode b_Mo_spread 169 = .ok (.bipush 12, 2) := by decide +kernel
theorem d_Mo_spread_171 : decode b_Mo_spread 171 = .ok (.irem, 1) := by decide +kernel
theorem d_Mo_spread_172 : decode b_Mo_spread 172 = .ok (.if_icmp .ge 16, 3) := by decide +kernel
theorem d_Mo_spread_175 : decode b_Mo_spread 175 = .ok (.aload_n 0, 1) := by decide +kernel
theorem d_Mo_spread_176 : decode b_Mo_spread 176 = .ok (.ldc2_w 94, 3) := by decide +kernel
theorem d_Mo_spread_179 : decode b_Mo_spread 179 = .ok (.invokevirtual 88, 3) := by decide +kernel
theorem d_Mo_spread_182 : decode b_Mo_spread 182 = .ok (.iinc 8 1, 3) := by decide +kernel
theorem d_Mo_spread_185 : decode b_Mo_spread 185 = .ok (.goto (-20), 3) := by decide +kernel
theorem d_Mo_spread_188 : decode b_Mo_spread 188 = .ok (.aload_n 0, 1) := by decide +kernel
theorem d_Mo_spread_189 : decode b_Mo_spread 189 = .ok (.iconst 3, 1) := by decide +kernel
theorem d_Mo_spread_190 : decode b_Mo_spread 190 = .ok (.iload 7, 2) := by decide +kernel
theorem d_Mo_spread_192 : decode b_Mo_spread 192 = .ok (.iadd, 1) := by decide +kernel
theorem d_Mo_spread_193 : decode b_Mo_spread 193 = .ok (.putfield 96, 3) := by decide +kernel
theorem d_Mo_spread_196 : decode b_Mo_spread 196 = .ok (.aload_n 0, 1) := by decide +kernel
theorem d_Mo_spread_197 : decode b_Mo_spread 197 = .ok (.lload_n 2, 1) := by decide +kernel
theorem d_Mo_spread_198 : decode b_Mo_spread 198 = .ok (.ldc2_w 86, 3) := by decide +kernel
theorem d_Mo_spread_201 : decode b_Mo_spread 201 = .ok (.lrem, 1) := by decide +kernel
theorem d_Mo_spread_202 : decode b_Mo_spread 202 = .ok (.lconst 0, 1) := by decide +kernel
theorem d_Mo_spread_203 : decode b_Mo_spread 203 = .ok (.lcmp, 1) := by decide +kernel
theorem d_Mo_spread_204 : decode b_Mo_spread 204 = .ok (.ifCond .ne 7, 3) := by decide +kernel
theorem d_Mo_spread_207 : decode b_Mo_spread 207 = .ok (.iconst 1, 1) := by decide +kernel
theorem d_Mo_spread_208 : decode b_Mo_spread 208 = .ok (.goto 4, 3) := by decide +kernel
theorem d_Mo_spread_211 : decode b_Mo_spread 211 = .ok (.iconst 0, 1) := by decide +kernel
theorem d_Mo_spread_212 : decode b_Mo_spread 212 = .ok (.putfield 99, 3) := by decide +kernel
theorem d_Mo_spread_215 : decode b_Mo_spread 215 = .ok (.aload_n 0, 1) := by decide +kernel
theorem d_Mo_spread_216 : decode b_Mo_spread 216 = .ok (.ldc2_w 102, 3) := by decide +kernel
theorem d_Mo_spread_219 : decode b_Mo_spread 219 = .ok (.lload 4, 2) := by decide +kernel
theorem d_Mo_spread_221 : decode b_Mo_spread 221 = .ok (.lmul, 1) := by decide +kernel
theorem d_Mo_spread_222 : decode b_Mo_spread 222 = .ok (.aload_n 0, 1) := by decide +kernel
theorem d_Mo_spread_223 : decode b_Mo_spread 223 = .ok (.getfield 27, 3) := by decide +kernel
theorem d_Mo_spread_226 : decode b_Mo_spread 226 = .ok (.invokevirtual 104, 3) := by decide +kernel
theorem d_Mo_spread_229 : decode b_Mo_spread 229 = .ok (.aload_n 0, 1) := by decide +kernel
theorem d_Mo_spread_230 : decode b_Mo_spread 230 = .ok (.ldc2_w 102, 3) := by decide +kernel
theorem d_Mo_spread_233 : decode b_Mo_spread 233 = .ok (.lload 4, 2) := by decide +kernel
theorem d_Mo_spread_235 : decode b_Mo_spread 235 = .ok (.lmul, 1) := by decide +kernel
theorem d_Mo_spread_236 : decode b_Mo_spread 236 = .ok (.lload_n 2, 1) := by decide +kernel
theorem d_Mo_spread_237 : decode b_Mo_spread 237 = .ok (.lconst 0, 1) := by decide +kernel
theorem d_Mo_spread_238 : decode b_Mo_spread 238 = .ok (.lcmp, 1) := by decide +kernel
theorem d_Mo_spread_239 : decode b_Mo_spread 239 = .ok (.ifCond .ne 12, 3) := by decide +kernel
theorem d_Mo_spread_242 : decode b_Mo_spread 242 = .ok (.iload_n 1, 1) := by decide +kernel
theorem d_Mo_spread_243 : decode b_Mo_spread 243 = .ok (.iconst 1, 1) := by decide +kernel
theorem d_Mo_spread_244 : decode b_Mo_spread 244 = .ok (.if_icmp .le 7, 3) := by decide +kernel
theorem d_Mo_spread_247 : decode b_Mo_spread 247 = .ok (.lconst 1, 1) := by decide +kernel
theorem d_Mo_spread_248 : decode b_Mo_spread 248 = .ok (.goto 6, 3) := by decide +kernel
theorem d_Mo_spread_251 : decode b_Mo_spread 251 = .ok (.ldc2_w 86, 3) := by decide +kernel
theorem d_Mo_spread_254 : decode b_Mo_spread 254 = .ok (.lsub, 1) := by decide +kernel
theorem d_Mo_spread_255 : decode b_Mo_spread 255 = .ok (.aload_n 0, 1) := by decide +kernel
theorem d_Mo_spread_256 : decode b_Mo_spread 256 = .ok (.getfield 30, 3) := by decide +kernel
theorem d_Mo_spread_259 : decode b_Mo_spread 259 = .ok (.invokevirtual 104, 3) := by decide +kernel
theorem d_Mo_spread_262 : decode b_Mo_spread 262 = .ok (.aload_n 0, 1) := by decide +kernel
theorem d_Mo_spread_263 : decode b_Mo_spread 263 = .ok (.ldc2_w 102, 3) := by decide +kernel
theorem d_Mo_spread_266 : decode b_Mo_spread 266 = .ok (.lload 4, 2) := by decide +kernel
theorem d_Mo_spread_268 : decode b_Mo_spread 268 = .ok (.lmul, 1) := by decide +kernel
theorem d_Mo_spread_269 : decode b_Mo_spread 269 = .ok (.ldc2_w 86, 3) := by decide +kernel
theorem d_Mo_spread_272 : decode b_Mo_spread 272 = .ok (.ladd, 1) := by decide +kernel
theorem d_Mo_spread_273 : decode b_Mo_spread 273 = .ok (.aload_n 0, 1) := by decide +kernel
theorem d_Mo_spread_274 : decode b_Mo_spread 274 = .ok (.getfield 33, 3) := by decide +kernel
theorem d_Mo_spread_277 : decode b_Mo_spread 277 = .ok (.invokevirtual 104, 3) := by decide +kernel
theorem d_Mo_spread_280 : decode b_Mo_spread 280 = .ok (.return_, 1) := by decide +kernel
theorem d_Mo_compare_0 : decode b_Mo_compare 0 = .ok (.sipush 863, 3) := by decide +kernel
theorem d_Mo_compare_3 : decode b_Mo_compare 3 = .ok (.istore_n 2, 1) := by decide +kernel
theorem d_Mo_compare_4 : decode b_Mo_compare 4 = .ok (.iload_n 2, 1) := by decide +kernel
theorem d_Mo_compare_5 : decode b_Mo_compare 5 = .ok (.ifCond .lt 18, 3) := by decide +kernel
theorem d_Mo_compare_8 : decode b_Mo_compare 8 = .ok (.aload_n 0, 1) := by decide +kernel
theorem d_Mo_compare_9 : decode b_Mo_compare 9 = .ok (.iload_n 2, 1) := by decide +kernel
theorem d_Mo_compare_10 : decode b_Mo_compare 10 = .ok (.iaload, 1) := by decide +kernel
theorem d_Mo_compare_11 : decode b_Mo_compare 11 = .ok (.aload_n 1, 1) := by decide +kernel
theorem d_Mo_compare_12 : decode b_Mo_compare 12 = .ok (.iload_n 2, 1) := by decide +kernel
theorem d_Mo_compare_13 : decode b_Mo_compare 13 = .ok (.iaload, 1) := by decide +kernel
theorem d_Mo_compare_14 : decode b_Mo_compare 14 = .ok (.if_icmp .ne 9, 3) := by decide +kernel
theorem d_Mo_compare_17 : decode b_Mo_compare 17 = .ok (.iinc 2 (-1), 3) := by decide +kernel
theorem d_Mo_compare_20 : decode b_Mo_compare 20 = .ok (.goto (-16), 3) := by decide +kernel
theorem d_Mo_compare_23 : decode b_Mo_compare 23 = .ok (.iload_n 2, 1) := by decide +kernel
theorem d_Mo_compare_24 : decode b_Mo_compare 24 = .ok (.ifCond .ge 7, 3) := by decide +kernel
theorem d_Mo_compare_27 : decode b_Mo_compare 27 = .ok (.iconst 0, 1) := by decide +kernel
theorem d_Mo_compare_28 : decode b_Mo_compare 28 = .ok (.goto 17, 3) := by decide +kernel
theorem d_Mo_compare_31 : decode b_Mo_compare 31 = .ok (.aload_n 0, 1) := by decide +kernel
theorem d_Mo_compare_32 : decode b_Mo_compare 32 = .ok (.iload_n 2, 1) := by decide +kernel
theorem d_Mo_compare_33 : decode b_Mo_compare 33 = .ok (.iaload, 1) := by decide +kernel
theorem d_Mo_compare_34 : decode b_Mo_compare 34 = .ok (.aload_n 1, 1) := by decide +kernel
theorem d_Mo_compare_35 : decode b_Mo_compare 35 = .ok (.iload_n 2, 1) := by decide +kernel
theorem d_Mo_compare_36 : decode b_Mo_compare 36 = .ok (.iaload, 1) := by decide +kernel
theorem d_Mo_compare_37 : decode b_Mo_compare 37 = .ok (.if_icmp .ge 7, 3) := by decide +kernel
theorem d_Mo_compare_40 : decode b_Mo_compare 40 = .ok (.iconst (-1), 1) := by decide +kernel
theorem d_Mo_compare_41 : decode b_Mo_compare 41 = .ok (.goto 4, 3) := by decide +kernel
theorem d_Mo_compare_44 : decode b_Mo_compare 44 = .ok (.iconst 1, 1) := by decide +kernel
theorem d_Mo_compare_45 : decode b_Mo_compare 45 = .ok (.ireturn, 1) := by decide +kernel
theorem d_Mo_top_0 : decode b_Mo_top 0 = .ok (.sipush 863, 3) := by decide +kernel
theorem d_Mo_top_3 : decode b_Mo_top 3 = .ok (.istore_n 1, 1) := by decide +kernel
theorem d_Mo_top_4 : decode b_Mo_top 4 = .ok (.iload_n 1, 1) := by decide +kernel
theorem d_Mo_top_5 : decode b_Mo_top 5 = .ok (.ifCond .lt 15, 3) := by decide +kernel
theorem d_Mo_top_8 : decode b_Mo_top 8 = .ok (.aload_n 0, 1) := by decide +kernel
theorem d_Mo_top_9 : decode b_Mo_top 9 = .ok (.iload_n 1, 1) := by decide +kernel
theorem d_Mo_top_10 : decode b_Mo_top 10 = .ok (.iaload, 1) := by decide +kernel
theorem d_Mo_top_11 : decode b_Mo_top 11 = .ok (.ifCond .ne 9, 3) := by decide +kernel
theorem d_Mo_top_14 : decode b_Mo_top 14 = .ok (.iinc 1 (-1), 3) := by decide +kernel
theorem d_Mo_top_17 : decode b_Mo_top 17 = .ok (.goto (-13), 3) := by decide +kernel
theorem d_Mo_top_20 : decode b_Mo_top 20 = .ok (.iload_n 1, 1) := by decide +kernel
theorem d_Mo_top_21 : decode b_Mo_top 21 = .ok (.ireturn, 1) := by decide +kernel
theorem d_Mo_bottom_0 : decode b_Mo_bottom 0 = .ok (.iconst 0, 1) := by decide +kernel
theorem d_Mo_bottom_1 : decode b_Mo_bottom 1 = .ok (.istore_n 1, 1) := by decide +kernel
theorem d_Mo_bottom_2 : decode b_Mo_bottom 2 = .ok (.iload_n 1, 1) := by decide +kernel
theorem d_Mo_bottom_3 : decode b_Mo_bottom 3 = .ok (.sipush 864, 3) := by decide +kernel
theorem d_Mo_bottom_6 : decode b_Mo_bottom 6 = .ok (.if_icmp .ge 15, 3) := by decide +kernel
theorem d_Mo_bottom_9 : decode b_Mo_bottom 9 = .ok (.aload_n 0, 1) := by decide +kernel
theorem d_Mo_bottom_10 : decode b_Mo_bottom 10 = .ok (.iload_n 1, 1) := by decide +kernel
theorem d_Mo_bottom_11 : decode b_Mo_bottom 11 = .ok (.iaload, 1) := by decide +kernel
theorem d_Mo_bottom_12 : decode b_Mo_bottom 12 = .ok (.ifCond .ne 9, 3) := by decide +kernel
theorem d_Mo_bottom_15 : decode b_Mo_bottom 15 = .ok (.iinc 1 1, 3) := by decide +kernel
theorem d_Mo_bottom_18 : decode b_Mo_bottom 18 = .ok (.goto (-16), 3) := by decide +kernel
theorem d_Mo_bottom_21 : decode b_Mo_bottom 21 = .ok (.iload_n 1, 1) := by decide +kernel
theorem d_Mo_bottom_22 : decode b_Mo_bottom 22 = .ok (.ireturn, 1) := by decide +kernel
theorem d_Mo_pick_0 : decode b_Mo_pick 0 = .ok (.iconst 0, 1) := by decide +kernel
theorem d_Mo_pick_1 : decode b_Mo_pick 1 = .ok (.istore_n 3, 1) := by decide +kernel
theorem d_Mo_pick_2 : decode b_Mo_pick 2 = .ok (.iload_n 3, 1) := by decide +kernel
theorem d_Mo_pick_3 : decode b_Mo_pick 3 = .ok (.sipush 864, 3) := by decide +kernel
theorem d_Mo_pick_6 : decode b_Mo_pick 6 = .ok (.if_icmp .ge 30, 3) := by decide +kernel
theorem d_Mo_pick_9 : decode b_Mo_pick 9 = .ok (.aload_n 0, 1) := by decide +kernel
theorem d_Mo_pick_10 : decode b_Mo_pick 10 = .ok (.getfield 36, 3) := by decide +kernel
theorem d_Mo_pick_13 : decode b_Mo_pick 13 = .ok (.iload_n 3, 1) := by decide +kernel
theorem d_Mo_pick_14 : decode b_Mo_pick 14 = .ok (.iload_n 3, 1) := by decide +kernel
theorem d_Mo_pick_15 : decode b_Mo_pick 15 = .ok (.iload_n 1, 1) := by decide +kernel
theorem d_Mo_pick_16 : decode b_Mo_pick 16 = .ok (.if_icmp .ge 7, 3) := by decide +kernel
theorem d_Mo_pick_19 : decode b_Mo_pick 19 = .ok (.iconst 0, 1) := by decide +kernel
theorem d_Mo_pick_20 : decode b_Mo_pick 20 = .ok (.goto 9, 3) := by decide +kernel
theorem d_Mo_pick_23 : decode b_Mo_pick 23 = .ok (.aload_n 0, 1) := by decide +kernel
theorem d_Mo_pick_24 : decode b_Mo_pick 24 = .ok (.getfield 27, 3) := by decide +kernel
theorem d_Mo_pick_27 : decode b_Mo_pick 27 = .ok (.iload_n 3, 1) := by decide +kernel
theorem d_Mo_pick_28 : decode b_Mo_pick 28 = .ok (.iaload, 1) := by decide +kernel
theorem d_Mo_pick_29 : decode b_Mo_pick 29 = .ok (.iastore, 1) := by decide +kernel
theorem d_Mo_pick_30 : decode b_Mo_pick 30 = .ok (.iinc 3 1, 3) := by decide +kernel
theorem d_Mo_pick_33 : decode b_Mo_pick 33 = .ok (.goto (-31), 3) := by decide +kernel
theorem d_Mo_pick_36 : decode b_Mo_pick 36 = .ok (.iload_n 2, 1) := by decide +kernel
theorem d_Mo_pick_37 : decode b_Mo_pick 37 = .ok (.ifCond .ne 4, 3) := by decide +kernel
theorem d_Mo_pick_40 : decode b_Mo_pick 40 = .ok (.return_, 1) := by decide +kernel
theorem d_Mo_pick_41 : decode b_Mo_pick 41 = .ok (.iload_n 1, 1) := by decide +kernel
theorem d_Mo_pick_42 : decode b_Mo_pick 42 = .ok (.istore_n 3, 1) := by decide +kernel
theorem d_Mo_pick_43 : decode b_Mo_pick 43 = .ok (.aload_n 0, 1) := by decide +kernel
theorem d_Mo_pick_44 : decode b_Mo_pick 44 = .ok (.getfield 36, 3) := by decide +kernel
theorem d_Mo_pick_47 : decode b_Mo_pick 47 = .ok (.iload_n 3, 1) := by decide +kernel
theorem d_Mo_pick_48 : decode b_Mo_pick 48 = .ok (.iaload, 1) := by decide +kernel
theorem d_Mo_pick_49 : decode b_Mo_pick 49 = .ok (.bipush 9, 2) := by decide +kernel
theorem d_Mo_pick_51 : decode b_Mo_pick 51 = .ok (.if_icmp .ne 16, 3) := by decide +kernel
theorem d_Mo_pick_54 : decode b_Mo_pick 54 = .ok (.aload_n 0, 1) := by decide +kernel
theorem d_Mo_pick_55 : decode b_Mo_pick 55 = .ok (.getfield 36, 3) := by decide +kernel
theorem d_Mo_pick_58 : decode b_Mo_pick 58 = .ok (.iload_n 3, 1) := by decide +kernel
theorem d_Mo_pick_59 : decode b_Mo_pick 59 = .ok (.iconst 0, 1) := by decide +kernel
theorem d_Mo_pick_60 : decode b_Mo_pick 60 = .ok (.iastore, 1) := by decide +kernel
theorem d_Mo_pick_61 : decode b_Mo_pick 61 = .ok (.iinc 3 1, 3) := by decide +kernel
theorem d_Mo_pick_64 : decode b_Mo_pick 64 = .ok (.goto (-21), 3) := by decide +kernel
theorem d_Mo_pick_67 : decode b_Mo_pick 67 = .ok (.aload_n 0, 1) := by decide +kernel
theorem d_Mo_pick_68 : decode b_Mo_pick 68 = .ok (.getfield 36, 3) := by decide +kernel
theorem d_Mo_pick_71 : decode b_Mo_pick 71 = .ok (.iload_n 3, 1) := by decide +kernel
theorem d_Mo_pick_72 : decode b_Mo_pick 72 = .ok (.dup2, 1) := by decide +kernel
theorem d_Mo_pick_73 : decode b_Mo_pick 73 = .ok (.iaload, 1) := by decide +kernel
theorem d_Mo_pick_74 : decode b_Mo_pick 74 = .ok (.iconst 1, 1) := by decide +kernel
theorem d_Mo_pick_75 : decode b_Mo_pick 75 = .ok (.iadd, 1) := by decide +kernel
theorem d_Mo_pick_76 : decode b_Mo_pick 76 = .ok (.iastore, 1) := by decide +kernel
theorem d_Mo_pick_77 : decode b_Mo_pick 77 = .ok (.return_, 1) := by decide +kernel
theorem d_Mo_readsBack_0 : decode b_Mo_readsBack 0 = .ok (.aload_n 0, 1) := by decide +kernel
theorem d_Mo_readsBack_1 : decode b_Mo_readsBack 1 = .ok (.getfield 36, 3) := by decide +kernel
theorem d_Mo_readsBack_4 : decode b_Mo_readsBack 4 = .ok (.aload_n 0, 1) := by decide +kernel
theorem d_Mo_readsBack_5 : decode b_Mo_readsBack 5 = .ok (.getfield 30, 3) := by decide +kernel
theorem d_Mo_readsBack_8 : decode b_Mo_readsBack 8 = .ok (.invokestatic 108, 3) := by decide +kernel
theorem d_Mo_readsBack_11 : decode b_Mo_readsBack 11 = .ok (.istore_n 1, 1) := by decide +kernel
theorem d_Mo_readsBack_12 : decode b_Mo_readsBack 12 = .ok (.aload_n 0, 1) := by decide +kernel
theorem d_Mo_readsBack_13 : decode b_Mo_readsBack 13 = .ok (.getfield 36, 3) := by decide +kernel
theorem d_Mo_readsBack_16 : decode b_Mo_readsBack 16 = .ok (.aload_n 0, 1) := by decide +kernel
theorem d_Mo_readsBack_17 : decode b_Mo_readsBack 17 = .ok (.getfield 33, 3) := by decide +kernel
theorem d_Mo_readsBack_20 : decode b_Mo_readsBack 20 = .ok (.invokestatic 108, 3) := by decide +kernel
theorem d_Mo_readsBack_23 : decode b_Mo_readsBack 23 = .ok (.istore_n 2, 1) := by decide +kernel
theorem d_Mo_readsBack_24 : decode b_Mo_readsBack 24 = .ok (.aload_n 0, 1) := by decide +kernel
theorem d_Mo_readsBack_25 : decode b_Mo_readsBack 25 = .ok (.getfield 36, 3) := by decide +kernel
theorem d_Mo_readsBack_28 : decode b_Mo_readsBack 28 = .ok (.invokestatic 112, 3) := by decide +kernel
theorem d_Mo_readsBack_31 : decode b_Mo_readsBack 31 = .ok (.ifCond .lt 37, 3) := by decide +kernel
theorem d_Mo_readsBack_34 : decode b_Mo_readsBack 34 = .ok (.iload_n 1, 1) := by decide +kernel
theorem d_Mo_readsBack_35 : decode b_Mo_readsBack 35 = .ok (.ifCond .gt 14, 3) := by decide +kernel
theorem d_Mo_readsBack_38 : decode b_Mo_readsBack 38 = .ok (.iload_n 1, 1) := by decide +kernel
theorem d_Mo_readsBack_39 : decode b_Mo_readsBack 39 = .ok (.ifCond .ne 29, 3) := by decide +kernel
theorem d_Mo_readsBack_42 : decode b_Mo_readsBack 42 = .ok (.aload_n 0, 1) := by decide +kernel
theorem d_Mo_readsBack_43 : decode b_Mo_readsBack 43 = .ok (.getfield 99, 3) := by decide +kernel
theorem d_Mo_readsBack_46 : decode b_Mo_readsBack 46 = .ok (.ifCond .eq 22, 3) := by decide +kernel
theorem d_Mo_readsBack_49 : decode b_Mo_readsBack 49 = .ok (.iload_n 2, 1) := by decide +kernel
theorem d_Mo_readsBack_50 : decode b_Mo_readsBack 50 = .ok (.ifCond .lt 14, 3) := by decide +kernel
theorem d_Mo_readsBack_53 : decode b_Mo_readsBack 53 = .ok (.iload_n 2, 1) := by decide +kernel
theorem d_Mo_readsBack_54 : decode b_Mo_readsBack 54 = .ok (.ifCond .ne 14, 3) := by decide +kernel
theorem d_Mo_readsBack_57 : decode b_Mo_readsBack 57 = .ok (.aload_n 0, 1) := by decide +kernel
theorem d_Mo_readsBack_58 : decode b_Mo_readsBack 58 = .ok (.getfield 99, 3) := by decide +kernel
theorem d_Mo_readsBack_61 : decode b_Mo_readsBack 61 = .ok (.ifCond .eq 7, 3) := by decide +kernel
theorem d_Mo_readsBack_64 : decode b_Mo_readsBack 64 = .ok (.iconst 1, 1) := by decide +kernel
theorem d_Mo_readsBack_65 : decode b_Mo_readsBack 65 = .ok (.goto 4, 3) := by decide +kernel
theorem d_Mo_readsBack_68 : decode b_Mo_readsBack 68 = .ok (.iconst 0, 1) := by decide +kernel
theorem d_Mo_readsBack_69 : decode b_Mo_readsBack 69 = .ok (.ireturn, 1) := by decide +kernel
theorem d_Mo_measure_0 : decode b_Mo_measure 0 = .ok (.aload_n 0, 1) := by decide +kernel
theorem d_Mo_measure_1 : decode b_Mo_measure 1 = .ok (.getfield 36, 3) := by decide +kernel
theorem d_Mo_measure_4 : decode b_Mo_measure 4 = .ok (.aload_n 0, 1) := by decide +kernel
theorem d_Mo_measure_5 : decode b_Mo_measure 5 = .ok (.getfield 27, 3) := by decide +kernel
theorem d_Mo_measure_8 : decode b_Mo_measure 8 = .ok (.invokestatic 108, 3) := by decide +kernel
theorem d_Mo_measure_11 : decode b_Mo_measure 11 = .ok (.ifCond .ge 7, 3) := by decide +kernel
theorem d_Mo_measure_14 : decode b_Mo_measure 14 = .ok (.iconst 1, 1) := by decide +kernel
theorem d_Mo_measure_15 : decode b_Mo_measure 15 = .ok (.goto 4, 3) := by decide +kernel
theorem d_Mo_measure_18 : decode b_Mo_measure 18 = .ok (.iconst 0, 1) := by decide +kernel
theorem d_Mo_measure_19 : decode b_Mo_measure 19 = .ok (.istore_n 1, 1) := by decide +kernel
theorem d_Mo_measure_20 : decode b_Mo_measure 20 = .ok (.iconst 0, 1) := by decide +kernel
theorem d_Mo_measure_21 : decode b_Mo_measure 21 = .ok (.istore_n 2, 1) := by decide +kernel
theorem d_Mo_measure_22 : decode b_Mo_measure 22 = .ok (.iconst 0, 1) := by decide +kernel
theorem d_Mo_measure_23 : decode b_Mo_measure 23 = .ok (.istore_n 3, 1) := by decide +kernel
theorem d_Mo_measure_24 : decode b_Mo_measure 24 = .ok (.iload_n 3, 1) := by decide +kernel
theorem d_Mo_measure_25 : decode b_Mo_measure 25 = .ok (.sipush 864, 3) := by decide +kernel
theorem d_Mo_measure_28 : decode b_Mo_measure 28 = .ok (.if_icmp .ge 78, 3) := by decide +kernel
theorem d_Mo_measure_31 : decode b_Mo_measure 31 = .ok (.iload_n 1, 1) := by decide +kernel
theorem d_Mo_measure_32 : decode b_Mo_measure 32 = .ok (.ifCond .eq 19, 3) := by decide +kernel
theorem d_Mo_measure_35 : decode b_Mo_measure 35 = .ok (.aload_n 0, 1) := by decide +kernel
theorem d_Mo_measure_36 : decode b_Mo_measure 36 = .ok (.getfield 27, 3) := by decide +kernel
theorem d_Mo_measure_39 : decode b_Mo_measure 39 = .ok (.iload_n 3, 1) := by decide +kernel
theorem d_Mo_measure_40 : decode b_Mo_measure 40 = .ok (.iaload, 1) := by decide +kernel
theorem d_Mo_measure_41 : decode b_Mo_measure 41 = .ok (.aload_n 0, 1) := by decide +kernel
theorem d_Mo_measure_42 : decode b_Mo_measure 42 = .ok (.getfield 36, 3) := by decide +kernel
theorem d_Mo_measure_45 : decode b_Mo_measure 45 = .ok (.iload_n 3, 1) := by decide +kernel
theorem d_Mo_measure_46 : decode b_Mo_measure 46 = .ok (.iaload, 1) := by decide +kernel
theorem d_Mo_measure_47 : decode b_Mo_measure 47 = .ok (.isub, 1) := by decide +kernel
theorem d_Mo_measure_48 : decode b_Mo_measure 48 = .ok (.goto 16, 3) := by decide +kernel
theorem d_Mo_measure_51 : decode b_Mo_measure 51 = .ok (.aload_n 0, 1) := by decide +kernel
theorem d_Mo_measure_52 : decode b_Mo_measure 52 = .ok (.getfield 36, 3) := by decide +kernel
theorem d_Mo_measure_55 : decode b_Mo_measure 55 = .ok (.iload_n 3, 1) := by decide +kernel
theorem d_Mo_measure_56 : decode b_Mo_measure 56 = .ok (.iaload, 1) := by decide +kernel
theorem d_Mo_measure_57 : decode b_Mo_measure 57 = .ok (.aload_n 0, 1) := by decide +kernel
theorem d_Mo_measure_58 : decode b_Mo_measure 58 = .ok (.getfield 27, 3) := by decide +kernel
theorem d_Mo_measure_61 : decode b_Mo_measure 61 = .ok (.iload_n 3, 1) := by decide +kernel
theorem d_Mo_measure_62 : decode b_Mo_measure 62 = .ok (.iaload, 1) := by decide +kernel
theorem d_Mo_measure_63 : decode b_Mo_measure 63 = .ok (.isub, 1) := by decide +kernel
theorem d_Mo_measure_64 : decode b_Mo_measure 64 = .ok (.iload_n 2, 1) := by decide +kernel
theorem d_Mo_measure_65 : decode b_Mo_measure 65 = .ok (.isub, 1) := by decide +kernel
theorem d_Mo_measure_66 : decode b_Mo_measure 66 = .ok (.istore 4, 2) := by decide +kernel
theorem d_Mo_measure_68 : decode b_Mo_measure 68 = .ok (.iload 4, 2) := by decide +kernel
theorem d_Mo_measure_70 : decode b_Mo_measure 70 = .ok (.ifCond .ge 7, 3) := by decide +kernel
theorem d_Mo_measure_73 : decode b_Mo_measure 73 = .ok (.iconst 1, 1) := by decide +kernel
theorem d_Mo_measure_74 : decode b_Mo_measure 74 = .ok (.goto 4, 3) := by decide +kernel
theorem d_Mo_measure_77 : decode b_Mo_measure 77 = .ok (.iconst 0, 1) := by decide +kernel
theorem d_Mo_measure_78 : decode b_Mo_measure 78 = .ok (.istore_n 2, 1) := by decide +kernel
theorem d_Mo_measure_79 : decode b_Mo_measure 79 = .ok (.aload_n 0, 1) := by decide +kernel
theorem d_Mo_measure_80 : decode b_Mo_measure 80 = .ok (.getfield 42, 3) := by decide +kernel
theorem d_Mo_measure_83 : decode b_Mo_measure 83 = .ok (.iload_n 3, 1) := by decide +kernel
theorem d_Mo_measure_84 : decode b_Mo_measure 84 = .ok (.iload 4, 2) := by decide +kernel
theorem d_Mo_measure_86 : decode b_Mo_measure 86 = .ok (.ifCond .ge 11, 3) := by decide +kernel
theorem d_Mo_measure_89 : decode b_Mo_measure 89 = .ok (.iload 4, 2) := by decide +kernel
theorem d_Mo_measure_91 : decode b_Mo_measure 91 = .ok (.bipush 10, 2) := by decide +kernel
theorem d_Mo_measure_93 : decode b_Mo_measure 93 = .ok (.iadd, 1) := by decide +kernel
theorem d_Mo_measure_94 : decode b_Mo_measure 94 = .ok (.goto 5, 3) := by decide +kernel
theorem d_Mo_measure_97 : decode b_Mo_measure 97 = .ok (.iload 4, 2) := by decide +kernel
theorem d_Mo_measure_99 : decode b_Mo_measure 99 = .ok (.iastore, 1) := by decide +kernel
theorem d_Mo_measure_100 : decode b_Mo_measure 100 = .ok (.iinc 3 1, 3) := by decide +kernel
theorem d_Mo_measure_103 : decode b_Mo_measure 103 = .ok (.goto (-79), 3) := by decide +kernel
theorem d_Mo_measure_106 : decode b_Mo_measure 106 = .ok (.return_, 1) := by decide +kernel
theorem d_Mo_search_0 : decode b_Mo_search 0 = .ok (.aload_n 0, 1) := by decide +kernel
theorem d_Mo_search_1 : decode b_Mo_search 1 = .ok (.invokevirtual 116, 3) := by decide +kernel
theorem d_Mo_search_4 : decode b_Mo_search 4 = .ok (.aload_n 0, 1) := by decide +kernel
theorem d_Mo_search_5 : decode b_Mo_search 5 = .ok (.getfield 27, 3) := by decide +kernel
theorem d_Mo_search_8 : decode b_Mo_search 8 = .ok (.invokestatic 112, 3) := by decide +kernel
theorem d_Mo_search_11 : decode b_Mo_search 11 = .ok (.iconst 2, 1) := by decide +kernel
theorem d_Mo_search_12 : decode b_Mo_search 12 = .ok (.iadd, 1) := by decide +kernel
theorem d_Mo_search_13 : decode b_Mo_search 13 = .ok (.istore_n 1, 1) := by decide +kernel
theorem d_Mo_search_14 : decode b_Mo_search 14 = .ok (.iconst 0, 1) := by decide +kernel
theorem d_Mo_search_15 : decode b_Mo_search 15 = .ok (.istore_n 2, 1) := by decide +kernel
theorem d_Mo_search_16 : decode b_Mo_search 16 = .ok (.iload_n 2, 1) := by decide +kernel
theorem d_Mo_search_17 : decode b_Mo_search 17 = .ok (.ifCond .ne 35, 3) := by decide +kernel
theorem d_Mo_search_20 : decode b_Mo_search 20 = .ok (.iinc 1 (-1), 3) := by decide +kernel
theorem d_Mo_search_23 : decode b_Mo_search 23 = .ok (.aload_n 0, 1) := by decide +kernel
theorem d_Mo_search_24 : decode b_Mo_search 24 = .ok (.iload_n 1, 1) := by decide +kernel
theorem d_Mo_search_25 : decode b_Mo_search 25 = .ok (.iconst 0, 1) := by decide +kernel
theorem d_Mo_search_26 : decode b_Mo_search 26 = .ok (.invokevirtual 119, 3) := by decide +kernel
theorem d_Mo_search_29 : decode b_Mo_search 29 = .ok (.aload_n 0, 1) := by decide +kernel
theorem d_Mo_search_30 : decode b_Mo_search 30 = .ok (.invokevirtual 123, 3) := by decide +kernel
theorem d_Mo_search_33 : decode b_Mo_search 33 = .ok (.istore_n 2, 1) := by decide +kernel
theorem d_Mo_search_34 : decode b_Mo_search 34 = .ok (.iload_n 2, 1) := by decide +kernel
theorem d_Mo_search_35 : decode b_Mo_search 35 = .ok (.ifCond .ne (-19), 3) := by decide +kernel
theorem d_Mo_search_38 : decode b_Mo_search 38 = .ok (.aload_n 0, 1) := by decide +kernel
theorem d_Mo_search_39 : decode b_Mo_search 39 = .ok (.iload_n 1, 1) := by decide +kernel
theorem d_Mo_search_40 : decode b_Mo_search 40 = .ok (.iconst 1, 1) := by decide +kernel
theorem d_Mo_search_41 : decode b_Mo_search 41 = .ok (.invokevirtual 119, 3) := by decide +kernel
theorem d_Mo_search_44 : decode b_Mo_search 44 = .ok (.aload_n 0, 1) := by decide +kernel
theorem d_Mo_search_45 : decode b_Mo_search 45 = .ok (.invokevirtual 123, 3) := by decide +kernel
theorem d_Mo_search_48 : decode b_Mo_search 48 = .ok (.istore_n 2, 1) := by decide +kernel
theorem d_Mo_search_49 : decode b_Mo_search 49 = .ok (.goto (-33), 3) := by decide +kernel
theorem d_Mo_search_52 : decode b_Mo_search 52 = .ok (.aload_n 0, 1) := by decide +kernel
theorem d_Mo_search_53 : decode b_Mo_search 53 = .ok (.getfield 36, 3) := by decide +kernel
theorem d_Mo_search_56 : decode b_Mo_search 56 = .ok (.invokestatic 112, 3) := by decide +kernel
theorem d_Mo_search_59 : decode b_Mo_search 59 = .ok (.aload_n 0, 1) := by decide +kernel
theorem d_Mo_search_60 : decode b_Mo_search 60 = .ok (.getfield 36, 3) := by decide +kernel
theorem d_Mo_search_63 : decode b_Mo_search 63 = .ok (.invokestatic 126, 3) := by decide +kernel
theorem d_Mo_search_66 : decode b_Mo_search 66 = .ok (.isub, 1) := by decide +kernel
theorem d_Mo_search_67 : decode b_Mo_search 67 = .ok (.iconst 1, 1) := by decide +kernel
theorem d_Mo_search_68 : decode b_Mo_search 68 = .ok (.iadd, 1) := by decide +kernel
theorem d_Mo_search_69 : decode b_Mo_search 69 = .ok (.istore_n 3, 1) := by decide +kernel
theorem d_Mo_search_70 : decode b_Mo_search 70 = .ok (.iload_n 3, 1) := by decide +kernel
theorem d_Mo_search_71 : decode b_Mo_search 71 = .ok (.iconst 1, 1) := by decide +kernel
theorem d_Mo_search_72 : decode b_Mo_search 72 = .ok (.if_icmp .ne 7, 3) := by decide +kernel
theorem d_Mo_search_75 : decode b_Mo_search 75 = .ok (.iconst 2, 1) := by decide +kernel
theorem d_Mo_search_76 : decode b_Mo_search 76 = .ok (.goto 4, 3) := by decide +kernel
theorem d_Mo_search_79 : decode b_Mo_search 79 = .ok (.iload_n 3, 1) := by decide +kernel
theorem d_Mo_search_80 : decode b_Mo_search 80 = .ok (.istore_n 3, 1) := by decide +kernel
theorem d_Mo_search_81 : decode b_Mo_search 81 = .ok (.iconst 0, 1) := by decide +kernel
theorem d_Mo_search_82 : decode b_Mo_search 82 = .ok (.istore 4, 2) := by decide +kernel
theorem d_Mo_search_84 : decode b_Mo_search 84 = .ok (.iload_n 1, 1) := by decide +kernel
theorem d_Mo_search_85 : decode b_Mo_search 85 = .ok (.istore 5, 2) := by decide +kernel
theorem d_Mo_search_87 : decode b_Mo_search 87 = .ok (.iload 5, 2) := by decide +kernel
theorem d_Mo_search_89 : decode b_Mo_search 89 = .ok (.ifCond .lt 180, 3) := by decide +kernel
theorem d_Mo_search_92 : decode b_Mo_search 92 = .ok (.iload 5, 2) := by decide +kernel
theorem d_Mo_search_94 : decode b_Mo_search 94 = .ok (.iload_n 1, 1) := by decide +kernel
theorem d_Mo_search_95 : decode b_Mo_search 95 = .ok (.iconst 3, 1) := by decide +kernel
theorem d_Mo_search_96 : decode b_Mo_search 96 = .ok (.isub, 1) := by decide +kernel
theorem d_Mo_search_97 : decode b_Mo_search 97 = .ok (.if_icmp .le 172, 3) := by decide +kernel
theorem d_Mo_search_100 : decode b_Mo_search 100 = .ok (.iconst 0, 1) := by decide +kernel
theorem d_Mo_search_101 : decode b_Mo_search 101 = .ok (.istore 6, 2) := by decide +kernel
theorem d_Mo_search_103 : decode b_Mo_search 103 = .ok (.iload 6, 2) := by decide +kernel
theorem d_Mo_search_105 : decode b_Mo_search 105 = .ok (.iconst 2, 1) := by decide +kernel
theorem d_Mo_search_106 : decode b_Mo_search 106 = .ok (.if_icmp .ge 157, 3) := by decide +kernel
theorem d_Mo_search_109 : decode b_Mo_search 109 = .ok (.aload_n 0, 1) := by decide +kernel
theorem d_Mo_search_110 : decode b_Mo_search 110 = .ok (.iload 5, 2) := by decide +kernel
theorem d_Mo_search_112 : decode b_Mo_search 112 = .ok (.iload 6, 2) := by decide +kernel
theorem d_Mo_search_114 : decode b_Mo_search 114 = .ok (.iconst 1, 1) := by decide +kernel
theorem d_Mo_search_115 : decode b_Mo_search 115 = .ok (.if_icmp .ne 7, 3) := by decide +kernel
theorem d_Mo_search_118 : decode b_Mo_search 118 = .ok (.iconst 1, 1) := by decide +kernel
theorem d_Mo_search_119 : decode b_Mo_search 119 = .ok (.goto 4, 3) := by decide +kernel
theorem d_Mo_search_122 : decode b_Mo_search 122 = .ok (.iconst 0, 1) := by decide +kernel
theorem d_Mo_search_123 : decode b_Mo_search 123 = .ok (.invokevirtual 119, 3) := by decide +kernel
theorem d_Mo_search_126 : decode b_Mo_search 126 = .ok (.aload_n 0, 1) := by decide +kernel
theorem d_Mo_search_127 : decode b_Mo_search 127 = .ok (.invokevirtual 123, 3) := by decide +kernel
theorem d_Mo_search_130 : decode b_Mo_search 130 = .ok (.ifCond .eq 127, 3) := by decide +kernel
theorem d_Mo_search_133 : decode b_Mo_search 133 = .ok (.aload_n 0, 1) := by decide +kernel
theorem d_Mo_search_134 : decode b_Mo_search 134 = .ok (.getfield 36, 3) := by decide +kernel
theorem d_Mo_search_137 : decode b_Mo_search 137 = .ok (.invokestatic 112, 3) := by decide +kernel
theorem d_Mo_search_140 : decode b_Mo_search 140 = .ok (.aload_n 0, 1) := by decide +kernel
theorem d_Mo_search_141 : decode b_Mo_search 141 = .ok (.getfield 36, 3) := by decide +kernel
theorem d_Mo_search_144 : decode b_Mo_search 144 = .ok (.invokestatic 126, 3) := by decide +kernel
theorem d_Mo_search_147 : decode b_Mo_search 147 = .ok (.isub, 1) := by decide +kernel
theorem d_Mo_search_148 : decode b_Mo_search 148 = .ok (.iconst 1, 1) := by decide +kernel
theorem d_Mo_search_149 : decode b_Mo_search 149 = .ok (.iadd, 1) := by decide +kernel
theorem d_Mo_search_150 : decode b_Mo_search 150 = .ok (.iload_n 3, 1) := by decide +kernel
theorem d_Mo_search_151 : decode b_Mo_search 151 = .ok (.if_icmp .le 6, 3) := by decide +kernel
theorem d_Mo_search_154 : decode b_Mo_search 154 = .ok (.goto 103, 3) := by decide +kernel
theorem d_Mo_search_157 : decode b_Mo_search 157 = .ok (.aload_n 0, 1) := by decide +kernel
theorem d_Mo_search_158 : decode b_Mo_search 158 = .ok (.invokevirtual 129, 3) := by decide +kernel
theorem d_Mo_search_161 : decode b_Mo_search 161 = .ok (.iload 4, 2) := by decide +kernel
theorem d_Mo_search_163 : decode b_Mo_search 163 = .ok (.ifCond .eq 17, 3) := by decide +kernel
theorem d_Mo_search_166 : decode b_Mo_search 166 = .ok (.aload_n 0, 1) := by decide +kernel
theorem d_Mo_search_167 : decode b_Mo_search 167 = .ok (.getfield 42, 3) := by decide +kernel
theorem d_Mo_search_170 : decode b_Mo_search 170 = .ok (.aload_n 0, 1) := by decide +kernel
theorem d_Mo_search_171 : decode b_Mo_search 171 = .ok (.getfield 45, 3) := by decide +kernel
theorem d_Mo_search_174 : decode b_Mo_search 174 = .ok (.invokestatic 108, 3) := by decide +kernel
theorem d_Mo_search_177 : decode b_Mo_search 177 = .ok (.goto 4, 3) := by decide +kernel
theorem d_Mo_search_180 : decode b_Mo_search 180 = .ok (.iconst (-1), 1) := by decide +kernel
theorem d_Mo_search_181 : decode b_Mo_search 181 = .ok (.istore 7, 2) := by decide +kernel
theorem d_Mo_search_183 : decode b_Mo_search 183 = .ok (.iload 7, 2) := by decide +kernel
theorem d_Mo_search_185 : decode b_Mo_search 185 = .ok (.ifCond .gt 72, 3) := by decide +kernel
theorem d_Mo_search_188 : decode b_Mo_search 188 = .ok (.iload 7, 2) := by decide +kernel
theorem d_Mo_search_190 : decode b_Mo_search 190 = .ok (.ifCond .ne 19, 3) := by decide +kernel
theorem d_Mo_search_193 : decode b_Mo_search 193 = .ok (.aload_n 0, 1) := by decide +kernel
theorem d_Mo_search_194 : decode b_Mo_search 194 = .ok (.getfield 36, 3) := by decide +kernel
theorem d_Mo_search_197 : decode b_Mo_search 197 = .ok (.iload 5, 2) := by decide +kernel
theorem d_Mo_search_199 : decode b_Mo_search 199 = .ok (.iaload, 1) := by decide +kernel
theorem d_Mo_search_200 : decode b_Mo_search 200 = .ok (.iconst 2, 1) := by decide +kernel
theorem d_Mo_search_201 : decode b_Mo_search 201 = .ok (.irem, 1) := by decide +kernel
theorem d_Mo_search_202 : decode b_Mo_search 202 = .ok (.iconst 1, 1) := by decide +kernel
theorem d_Mo_search_203 : decode b_Mo_search 203 = .ok (.if_icmp .ne 6, 3) := by decide +kernel
theorem d_Mo_search_206 : decode b_Mo_search 206 = .ok (.goto 51, 3) := by decide +kernel
theorem d_Mo_search_209 : decode b_Mo_search 209 = .ok (.iconst 1, 1) := by decide +kernel
theorem d_Mo_search_210 : decode b_Mo_search 210 = .ok (.istore 4, 2) := by decide +kernel
theorem d_Mo_search_212 : decode b_Mo_search 212 = .ok (.iconst 0, 1) := by decide +kernel
theorem d_Mo_search_213 : decode b_Mo_search 213 = .ok (.istore 8, 2) := by decide +kernel
theorem d_Mo_search_215 : decode b_Mo_search 215 = .ok (.iload 8, 2) := by decide +kernel
theorem d_Mo_search_217 : decode b_Mo_search 217 = .ok (.sipush 864, 3) := by decide +kernel
theorem d_Mo_search_220 : decode b_Mo_search 220 = .ok (.if_icmp .ge 37, 3) := by decide +kernel
theorem d_Mo_search_223 : decode b_Mo_search 223 = .ok (.aload_n 0, 1) := by decide +kernel
theorem d_Mo_search_224 : decode b_Mo_search 224 = .ok (.getfield 39, 3) := by decide +kernel
theorem d_Mo_search_227 : decode b_Mo_search 227 = .ok (.iload 8, 2) := by decide +kernel
theorem d_Mo_search_229 : decode b_Mo_search 229 = .ok (.aload_n 0, 1) := by decide +kernel
theorem d_Mo_search_230 : decode b_Mo_search 230 = .ok (.getfield 36, 3) := by decide +kernel
theorem d_Mo_search_233 : decode b_Mo_search 233 = .ok (.iload 8, 2) := by decide +kernel
theorem d_Mo_search_235 : decode b_Mo_search 235 = .ok (.iaload, 1) := by decide +kernel
theorem d_Mo_search_236 : decode b_Mo_search 236 = .ok (.iastore, 1) := by decide +kernel
theorem d_Mo_search_237 : decode b_Mo_search 237 = .ok (.aload_n 0, 1) := by decide +kernel
theorem d_Mo_search_238 : decode b_Mo_search 238 = .ok (.getfield 45, 3) := by decide +kernel
theorem d_Mo_search_241 : decode b_Mo_search 241 = .ok (.iload 8, 2) := by decide +kernel
theorem d_Mo_search_243 : decode b_Mo_search 243 = .ok (.aload_n 0, 1) := by decide +kernel
theorem d_Mo_search_244 : decode b_Mo_search 244 = .ok (.getfield 42, 3) := by decide +kernel
theorem d_Mo_search_247 : decode b_Mo_search 247 = .ok (.iload 8, 2) := by decide +kernel
theorem d_Mo_search_249 : decode b_Mo_search 249 = .ok (.iaload, 1) := by decide +kernel
theorem d_Mo_search_250 : decode b_Mo_search 250 = .ok (.iastore, 1) := by decide +kernel
theorem d_Mo_search_251 : decode b_Mo_search 251 = .ok (.iinc 8 1, 3) := by decide +kernel
theorem d_Mo_search_254 : decode b_Mo_search 254 = .ok (.goto (-39), 3) := by decide +kernel
theorem d_Mo_search_257 : decode b_Mo_search 257 = .ok (.iinc 6 1, 3) := by decide +kernel
theorem d_Mo_search_260 : decode b_Mo_search 260 = .ok (.goto (-157), 3) := by decide +kernel
theorem d_Mo_search_263 : decode b_Mo_search 263 = .ok (.iinc 5 (-1), 3) := by decide +kernel
theorem d_Mo_search_266 : decode b_Mo_search 266 = .ok (.goto (-179), 3) := by decide +kernel
theorem d_Mo_search_269 : decode b_Mo_search 269 = .ok (.return_, 1) := by decide +kernel
theorem d_Mo_digits_0 : decode b_Mo_digits 0 = .ok (.aload_n 0, 1) := by decide +kernel
theorem d_Mo_digits_1 : decode b_Mo_digits 1 = .ok (.iconst 0, 1) := by decide +kernel
theorem d_Mo_digits_2 : decode b_Mo_digits 2 = .ok (.putfield 48, 3) := by decide +kernel
theorem d_Mo_digits_5 : decode b_Mo_digits 5 = .ok (.aload_n 0, 1) := by decide +kernel
theorem d_Mo_digits_6 : decode b_Mo_digits 6 = .ok (.invokevirtual 132, 3) := by decide +kernel
theorem d_Mo_digits_9 : decode b_Mo_digits 9 = .ok (.iconst 4, 1) := by decide +kernel
theorem d_Mo_digits_10 : decode b_Mo_digits 10 = .ok (.if_icmp .eq 5, 3) := by decide +kernel
theorem d_Mo_digits_13 : decode b_Mo_digits 13 = .ok (.lconst 0, 1) := by decide +kernel
theorem d_Mo_digits_14 : decode b_Mo_digits 14 = .ok (.lreturn, 1) := by decide +kernel
theorem d_Mo_digits_15 : decode b_Mo_digits 15 = .ok (.aload_n 0, 1) := by decide +kernel
theorem d_Mo_digits_16 : decode b_Mo_digits 16 = .ok (.invokevirtual 135, 3) := by decide +kernel
theorem d_Mo_digits_19 : decode b_Mo_digits 19 = .ok (.lconst 0, 1) := by decide +kernel
theorem d_Mo_digits_20 : decode b_Mo_digits 20 = .ok (.lstore_n 1, 1) := by decide +kernel
theorem d_Mo_digits_21 : decode b_Mo_digits 21 = .ok (.aload_n 0, 1) := by decide +kernel
theorem d_Mo_digits_22 : decode b_Mo_digits 22 = .ok (.getfield 39, 3) := by decide +kernel
theorem d_Mo_digits_25 : decode b_Mo_digits 25 = .ok (.invokestatic 112, 3) := by decide +kernel
theorem d_Mo_digits_28 : decode b_Mo_digits 28 = .ok (.istore_n 3, 1) := by decide +kernel
theorem d_Mo_digits_29 : decode b_Mo_digits 29 = .ok (.iload_n 3, 1) := by decide +kernel
theorem d_Mo_digits_30 : decode b_Mo_digits 30 = .ok (.aload_n 0, 1) := by decide +kernel
theorem d_Mo_digits_31 : decode b_Mo_digits 31 = .ok (.getfield 39, 3) := by decide +kernel
theorem d_Mo_digits_34 : decode b_Mo_digits 34 = .ok (.invokestatic 126, 3) := by decide +kernel
theorem d_Mo_digits_37 : decode b_Mo_digits 37 = .ok (.if_icmp .lt 23, 3) := by decide +kernel
theorem d_Mo_digits_40 : decode b_Mo_digits 40 = .ok (.ldc2_w 138, 3) := by decide +kernel
theorem d_Mo_digits_43 : decode b_Mo_digits 43 = .ok (.lload_n 1, 1) := by decide +kernel
theorem d_Mo_digits_44 : decode b_Mo_digits 44 = .ok (.lmul, 1) := by decide +kernel
theorem d_Mo_digits_45 : decode b_Mo_digits 45 = .ok (.aload_n 0, 1) := by decide +kernel
theorem d_Mo_digits_46 : decode b_Mo_digits 46 = .ok (.getfield 39, 3) := by decide +kernel
theorem d_Mo_digits_49 : decode b_Mo_digits 49 = .ok (.iload_n 3, 1) := by decide +kernel
theorem d_Mo_digits_50 : decode b_Mo_digits 50 = .ok (.iaload, 1) := by decide +kernel
theorem d_Mo_digits_51 : decode b_Mo_digits 51 = .ok (.i2l, 1) := by decide +kernel
theorem d_Mo_digits_52 : decode b_Mo_digits 52 = .ok (.ladd, 1) := by decide +kernel
theorem d_Mo_digits_53 : decode b_Mo_digits 53 = .ok (.lstore_n 1, 1) := by decide +kernel
theorem d_Mo_digits_54 : decode b_Mo_digits 54 = .ok (.iinc 3 (-1), 3) := by decide +kernel
theorem d_Mo_digits_57 : decode b_Mo_digits 57 = .ok (.goto (-28), 3) := by decide +kernel
theorem d_Mo_digits_60 : decode b_Mo_digits 60 = .ok (.lload_n 1, 1) := by decide +kernel
theorem d_Mo_digits_61 : decode b_Mo_digits 61 = .ok (.lreturn, 1) := by decide +kernel
theorem d_Mo_tens_0 : decode b_Mo_tens 0 = .ok (.aload_n 0, 1) := by decide +kernel
theorem d_Mo_tens_1 : decode b_Mo_tens 1 = .ok (.iconst 0, 1) := by decide +kernel
theorem d_Mo_tens_2 : decode b_Mo_tens 2 = .ok (.putfield 48, 3) := by decide +kernel
theorem d_Mo_tens_5 : decode b_Mo_tens 5 = .ok (.aload_n 0, 1) := by decide +kernel
theorem d_Mo_tens_6 : decode b_Mo_tens 6 = .ok (.invokevirtual 132, 3) := by decide +kernel
theorem d_Mo_tens_9 : decode b_Mo_tens 9 = .ok (.iconst 4, 1) := by decide +kernel
theorem d_Mo_tens_10 : decode b_Mo_tens 10 = .ok (.if_icmp .eq 5, 3) := by decide +kernel
theorem d_Mo_tens_13 : decode b_Mo_tens 13 = .ok (.iconst 0, 1) := by decide +kernel
theorem d_Mo_tens_14 : decode b_Mo_tens 14 = .ok (.ireturn, 1) := by decide +kernel
theorem d_Mo_tens_15 : decode b_Mo_tens 15 = .ok (.aload_n 0, 1) := by decide +kernel
theorem d_Mo_tens_16 : decode b_Mo_tens 16 = .ok (.invokevirtual 135, 3) := by decide +kernel
theorem d_Mo_tens_19 : decode b_Mo_tens 19 = .ok (.aload_n 0, 1) := by decide +kernel
theorem d_Mo_tens_20 : decode b_Mo_tens 20 = .ok (.getfield 39, 3) := by decide +kernel
theorem d_Mo_tens_23 : decode b_Mo_tens 23 = .ok (.invokestatic 126, 3) := by decide +kernel
theorem d_Mo_tens_26 : decode b_Mo_tens 26 = .ok (.aload_n 0, 1) := by decide +kernel
theorem d_Mo_tens_27 : decode b_Mo_tens 27 = .ok (.getfield 96, 3) := by decide +kernel
theorem d_Mo_tens_30 : decode b_Mo_tens 30 = .ok (.isub, 1) := by decide +kernel
theorem d_Mo_tens_31 : decode b_Mo_tens 31 = .ok (.ireturn, 1) := by decide +kernel
theorem d_Mo_put_0 : decode b_Mo_put 0 = .ok (.aload_n 0, 1) := by decide +kernel
theorem d_Mo_put_1 : decode b_Mo_put 1 = .ok (.getfield 16, 3) := by decide +kernel
theorem d_Mo_put_4 : decode b_Mo_put 4 = .ok (.aload_n 0, 1) := by decide +kernel
theorem d_Mo_put_5 : decode b_Mo_put 5 = .ok (.getfield 140, 3) := by decide +kernel
theorem d_Mo_put_8 : decode b_Mo_put 8 = .ok (.iload_n 1, 1) := by decide +kernel
theorem d_Mo_put_9 : decode b_Mo_put 9 = .ok (.iastore, 1) := by decide +kernel
theorem d_Mo_put_10 : decode b_Mo_put 10 = .ok (.aload_n 0, 1) := by decide +kernel
theorem d_Mo_put_11 : decode b_Mo_put 11 = .ok (.dup, 1) := by decide +kernel
theorem d_Mo_put_12 : decode b_Mo_put 12 = .ok (.getfield 140, 3) := by decide +kernel
theorem d_Mo_put_15 : decode b_Mo_put 15 = .ok (.iconst 1, 1) := by decide +kernel
theorem d_Mo_put_16 : decode b_Mo_put 16 = .ok (.iadd, 1) := by decide +kernel
theorem d_Mo_put_17 : decode b_Mo_put 17 = .ok (.putfield 140, 3) := by decide +kernel
theorem d_Mo_put_20 : decode b_Mo_put 20 = .ok (.return_, 1) := by decide +kernel
theorem d_Mo_putNumber_0 : decode b_Mo_putNumber 0 = .ok (.iload_n 1, 1) := by decide +kernel
theorem d_Mo_putNumber_1 : decode b_Mo_putNumber 1 = .ok (.ifCond .ge 9, 3) := by decide +kernel
theorem d_Mo_putNumber_4 : decode b_Mo_putNumber 4 = .ok (.aload_n 0, 1) := by decide +kernel
theorem d_Mo_putNumber_5 : decode b_Mo_putNumber 5 = .ok (.bipush 45, 2) := by decide +kernel
theorem d_Mo_putNumber_7 : decode b_Mo_putNumber 7 = .ok (.invokevirtual 143, 3) := by decide +kernel
theorem d_Mo_putNumber_10 : decode b_Mo_putNumber 10 = .ok (.iload_n 1, 1) := by decide +kernel
theorem d_Mo_putNumber_11 : decode b_Mo_putNumber 11 = .ok (.ifCond .ge 8, 3) := by decide +kernel
theorem d_Mo_putNumber_14 : decode b_Mo_putNumber 14 = .ok (.iload_n 1, 1) := by decide +kernel
theorem d_Mo_putNumber_15 : decode b_Mo_putNumber 15 = .ok (.ineg, 1) := by decide +kernel
theorem d_Mo_putNumber_16 : decode b_Mo_putNumber 16 = .ok (.goto 4, 3) := by decide +kernel
theorem d_Mo_putNumber_19 : decode b_Mo_putNumber 19 = .ok (.iload_n 1, 1) := by decide +kernel
theorem d_Mo_putNumber_20 : decode b_Mo_putNumber 20 = .ok (.istore_n 2, 1) := by decide +kernel
theorem d_Mo_putNumber_21 : decode b_Mo_putNumber 21 = .ok (.iconst 1, 1) := by decide +kernel
theorem d_Mo_putNumber_22 : decode b_Mo_putNumber 22 = .ok (.istore_n 3, 1) := by decide +kernel
theorem d_Mo_putNumber_23 : decode b_Mo_putNumber 23 = .ok (.iload_n 2, 1) := by decide +kernel
theorem d_Mo_putNumber_24 : decode b_Mo_putNumber 24 = .ok (.iload_n 3, 1) := by decide +kernel
theorem d_Mo_putNumber_25 : decode b_Mo_putNumber 25 = .ok (.idiv, 1) := by decide +kernel
theorem d_Mo_putNumber_26 : decode b_Mo_putNumber 26 = .ok (.bipush 9, 2) := by decide +kernel
theorem d_Mo_putNumber_28 : decode b_Mo_putNumber 28 = .ok (.if_icmp .le 11, 3) := by decide +kernel
theorem d_Mo_putNumber_31 : decode b_Mo_putNumber 31 = .ok (.bipush 10, 2) := by decide +kernel
theorem d_Mo_putNumber_33 : decode b_Mo_putNumber 33 = .ok (.iload_n 3, 1) := by decide +kernel
theorem d_Mo_putNumber_34 : decode b_Mo_putNumber 34 = .ok (.imul, 1) := by decide +kernel
theorem d_Mo_putNumber_35 : decode b_Mo_putNumber 35 = .ok (.istore_n 3, 1) := by decide +kernel
theorem d_Mo_putNumber_36 : decode b_Mo_putNumber 36 = .ok (.goto (-13), 3) := by decide +kernel
theorem d_Mo_putNumber_39 : decode b_Mo_putNumber 39 = .ok (.iload_n 3, 1) := by decide +kernel
theorem d_Mo_putNumber_40 : decode b_Mo_putNumber 40 = .ok (.ifCond .le 24, 3) := by decide +kernel
theorem d_Mo_putNumber_43 : decode b_Mo_putNumber 43 = .ok (.aload_n 0, 1) := by decide +kernel
theorem d_Mo_putNumber_44 : decode b_Mo_putNumber 44 = .ok (.bipush 48, 2) := by decide +kernel
theorem d_Mo_putNumber_46 : decode b_Mo_putNumber 46 = .ok (.iload_n 2, 1) := by decide +kernel
theorem d_Mo_putNumber_47 : decode b_Mo_putNumber 47 = .ok (.iload_n 3, 1) := by decide +kernel
theorem d_Mo_putNumber_48 : decode b_Mo_putNumber 48 = .ok (.idiv, 1) := by decide +kernel
theorem d_Mo_putNumber_49 : decode b_Mo_putNumber 49 = .ok (.bipush 10, 2) := by decide +kernel
theorem d_Mo_putNumber_51 : decode b_Mo_putNumber 51 = .ok (.irem, 1) := by decide +kernel
theorem d_Mo_putNumber_52 : decode b_Mo_putNumber 52 = .ok (.iadd, 1) := by decide +kernel
theorem d_Mo_putNumber_53 : decode b_Mo_putNumber 53 = .ok (.invokevirtual 143, 3) := by decide +kernel
theorem d_Mo_putNumber_56 : decode b_Mo_putNumber 56 = .ok (.iload_n 3, 1) := by decide +kernel
theorem d_Mo_putNumber_57 : decode b_Mo_putNumber 57 = .ok (.bipush 10, 2) := by decide +kernel
theorem d_Mo_putNumber_59 : decode b_Mo_putNumber 59 = .ok (.idiv, 1) := by decide +kernel
theorem d_Mo_putNumber_60 : decode b_Mo_putNumber 60 = .ok (.istore_n 3, 1) := by decide +kernel
theorem d_Mo_putNumber_61 : decode b_Mo_putNumber 61 = .ok (.goto (-22), 3) := by decide +kernel
theorem d_Mo_putNumber_64 : decode b_Mo_putNumber 64 = .ok (.return_, 1) := by decide +kernel
theorem d_Mo_putOther_0 : decode b_Mo_putOther 0 = .ok (.aload_n 0, 1) := by decide +kernel
theorem d_Mo_putOther_1 : decode b_Mo_putOther 1 = .ok (.invokevirtual 132, 3) := by decide +kernel
theorem d_Mo_putOther_4 : decode b_Mo_putOther 4 = .ok (.istore_n 2, 1) := by decide +kernel
theorem d_Mo_putOther_5 : decode b_Mo_putOther 5 = .ok (.iload_n 2, 1) := by decide +kernel
theorem d_Mo_putOther_6 : decode b_Mo_putOther 6 = .ok (.iconst 1, 1) := by decide +kernel
theorem d_Mo_putOther_7 : decode b_Mo_putOther 7 = .ok (.if_icmp .le 16, 3) := by decide +kernel
theorem d_Mo_putOther_10 : decode b_Mo_putOther 10 = .ok (.aload_n 0, 1) := by decide +kernel
theorem d_Mo_putOther_11 : decode b_Mo_putOther 11 = .ok (.invokevirtual 147, 3) := by decide +kernel
theorem d_Mo_putOther_14 : decode b_Mo_putOther 14 = .ok (.ifCond .eq 9, 3) := by decide +kernel
theorem d_Mo_putOther_17 : decode b_Mo_putOther 17 = .ok (.aload_n 0, 1) := by decide +kernel
theorem d_Mo_putOther_18 : decode b_Mo_putOther 18 = .ok (.bipush 45, 2) := by decide +kernel
theorem d_Mo_putOther_20 : decode b_Mo_putOther 20 = .ok (.invokevirtual 143, 3) := by decide +kernel
theorem d_Mo_putOther_23 : decode b_Mo_putOther 23 = .ok (.iload_n 2, 1) := by decide +kernel
theorem d_Mo_putOther_24 : decode b_Mo_putOther 24 = .ok (.iconst 1, 1) := by decide +kernel
theorem d_Mo_putOther_25 : decode b_Mo_putOther 25 = .ok (.if_icmp .ne 24, 3) := by decide +kernel
theorem d_Mo_putOther_28 : decode b_Mo_putOther 28 = .ok (.aload_n 0, 1) := by decide +kernel
theorem d_Mo_putOther_29 : decode b_Mo_putOther 29 = .ok (.bipush 78, 2) := by decide +kernel
theorem d_Mo_putOther_31 : decode b_Mo_putOther 31 = .ok (.invokevirtual 143, 3) := by decide +kernel
theorem d_Mo_putOther_34 : decode b_Mo_putOther 34 = .ok (.aload_n 0, 1) := by decide +kernel
theorem d_Mo_putOther_35 : decode b_Mo_putOther 35 = .ok (.bipush 97, 2) := by decide +kernel
theorem d_Mo_putOther_37 : decode b_Mo_putOther 37 = .ok (.invokevirtual 143, 3) := by decide +kernel
theorem d_Mo_putOther_40 : decode b_Mo_putOther 40 = .ok (.aload_n 0, 1) := by decide +kernel
theorem d_Mo_putOther_41 : decode b_Mo_putOther 41 = .ok (.bipush 78, 2) := by decide +kernel
theorem d_Mo_putOther_43 : decode b_Mo_putOther 43 = .ok (.invokevirtual 143, 3) := by decide +kernel
theorem d_Mo_putOther_46 : decode b_Mo_putOther 46 = .ok (.goto 122, 3) := by decide +kernel
theorem d_Mo_putOther_49 : decode b_Mo_putOther 49 = .ok (.iload_n 2, 1) := by decide +kernel
theorem d_Mo_putOther_50 : decode b_Mo_putOther 50 = .ok (.iconst 2, 1) := by decide +kernel
theorem d_Mo_putOther_51 : decode b_Mo_putOther 51 = .ok (.if_icmp .ne 54, 3) := by decide +kernel
theorem d_Mo_putOther_54 : decode b_Mo_putOther 54 = .ok (.aload_n 0, 1) := by decide +kernel
theorem d_Mo_putOther_55 : decode b_Mo_putOther 55 = .ok (.bipush 73, 2) := by decide +kernel
theorem d_Mo_putOther_57 : decode b_Mo_putOther 57 = .ok (.invokevirtual 143, 3) := by decide +kernel
theorem d_Mo_putOther_60 : decode b_Mo_putOther 60 = .ok (.aload_n 0, 1) := by decide +kernel
theorem d_Mo_putOther_61 : decode b_Mo_putOther 61 = .ok (.bipush 110, 2) := by decide +kernel
theorem d_Mo_putOther_63 : decode b_Mo_putOther 63 = .ok (.invokevirtual 143, 3) := by decide +kernel
theorem d_Mo_putOther_66 : decode b_Mo_putOther 66 = .ok (.aload_n 0, 1) := by decide +kernel
theorem d_Mo_putOther_67 : decode b_Mo_putOther 67 = .ok (.bipush 102, 2) := by decide +kernel
theorem d_Mo_putOther_69 : decode b_Mo_putOther 69 = .ok (.invokevirtual 143, 3) := by decide +kernel
theorem d_Mo_putOther_72 : decode b_Mo_putOther 72 = .ok (.aload_n 0, 1) := by decide +kernel
theorem d_Mo_putOther_73 : decode b_Mo_putOther 73 = .ok (.bipush 105, 2) := by decide +kernel
theorem d_Mo_putOther_75 : decode b_Mo_putOther 75 = .ok (.invokevirtual 143, 3) := by decide +kernel
theorem d_Mo_putOther_78 : decode b_Mo_putOther 78 = .ok (.aload_n 0, 1) := by decide +kernel
theorem d_Mo_putOther_79 : decode b_Mo_putOther 79 = .ok (.bipush 110, 2) := by decide +kernel
theorem d_Mo_putOther_81 : decode b_Mo_putOther 81 = .ok (.invokevirtual 143, 3) := by decide +kernel
theorem d_Mo_putOther_84 : decode b_Mo_putOther 84 = .ok (.aload_n 0, 1) := by decide +kernel
theorem d_Mo_putOther_85 : decode b_Mo_putOther 85 = .ok (.bipush 105, 2) := by decide +kernel
theorem d_Mo_putOther_87 : decode b_Mo_putOther 87 = .ok (.invokevirtual 143, 3) := by decide +kernel
theorem d_Mo_putOther_90 : decode b_Mo_putOther 90 = .ok (.aload_n 0, 1) := by decide +kernel
theorem d_Mo_putOther_91 : decode b_Mo_putOther 91 = .ok (.bipush 116, 2) := by decide +kernel
theorem d_Mo_putOther_93 : decode b_Mo_putOther 93 = .ok (.invokevirtual 143, 3) := by decide +kernel
theorem d_Mo_putOther_96 : decode b_Mo_putOther 96 = .ok (.aload_n 0, 1) := by decide +kernel
theorem d_Mo_putOther_97 : decode b_Mo_putOther 97 = .ok (.bipush 121, 2) := by decide +kernel
theorem d_Mo_putOther_99 : decode b_Mo_putOther 99 = .ok (.invokevirtual 143, 3) := by decide +kernel
theorem d_Mo_putOther_102 : decode b_Mo_putOther 102 = .ok (.goto 66, 3) := by decide +kernel
theorem d_Mo_putOther_105 : decode b_Mo_putOther 105 = .ok (.iload_n 2, 1) := by decide +kernel
theorem d_Mo_putOther_106 : decode b_Mo_putOther 106 = .ok (.iconst 3, 1) := by decide +kernel
theorem d_Mo_putOther_107 : decode b_Mo_putOther 107 = .ok (.if_icmp .ne 61, 3) := by decide +kernel
theorem d_Mo_putOther_110 : decode b_Mo_putOther 110 = .ok (.aload_n 0, 1) := by decide +kernel
theorem d_Mo_putOther_111 : decode b_Mo_putOther 111 = .ok (.bipush 48, 2) := by decide +kernel
theorem d_Mo_putOther_113 : decode b_Mo_putOther 113 = .ok (.invokevirtual 143, 3) := by decide +kernel
theorem d_Mo_putOther_116 : decode b_Mo_putOther 116 = .ok (.iload_n 1, 1) := by decide +kernel
theorem d_Mo_putOther_117 : decode b_Mo_putOther 117 = .ok (.ifCond .eq 9, 3) := by decide +kernel
theorem d_Mo_putOther_120 : decode b_Mo_putOther 120 = .ok (.aload_n 0, 1) := by decide +kernel
theorem d_Mo_putOther_121 : decode b_Mo_putOther 121 = .ok (.bipush 120, 2) := by decide +kernel
theorem d_Mo_putOther_123 : decode b_Mo_putOther 123 = .ok (.invokevirtual 143, 3) := by decide +kernel
theorem d_Mo_putOther_126 : decode b_Mo_putOther 126 = .ok (.iload_n 1, 1) := by decide +kernel
theorem d_Mo_putOther_127 : decode b_Mo_putOther 127 = .ok (.ifCond .eq 9, 3) := by decide +kernel
theorem d_Mo_putOther_130 : decode b_Mo_putOther 130 = .ok (.aload_n 0, 1) := by decide +kernel
theorem d_Mo_putOther_131 : decode b_Mo_putOther 131 = .ok (.bipush 48, 2) := by decide +kernel
theorem d_Mo_putOther_133 : decode b_Mo_putOther 133 = .ok (.invokevirtual 143, 3) := by decide +kernel
theorem d_Mo_putOther_136 : decode b_Mo_putOther 136 = .ok (.aload_n 0, 1) := by decide +kernel
theorem d_Mo_putOther_137 : decode b_Mo_putOther 137 = .ok (.bipush 46, 2) := by decide +kernel
theorem d_Mo_putOther_139 : decode b_Mo_putOther 139 = .ok (.invokevirtual 143, 3) := by decide +kernel
theorem d_Mo_putOther_142 : decode b_Mo_putOther 142 = .ok (.aload_n 0, 1) := by decide +kernel
theorem d_Mo_putOther_143 : decode b_Mo_putOther 143 = .ok (.bipush 48, 2) := by decide +kernel
theorem d_Mo_putOther_145 : decode b_Mo_putOther 145 = .ok (.invokevirtual 143, 3) := by decide +kernel
theorem d_Mo_putOther_148 : decode b_Mo_putOther 148 = .ok (.iload_n 1, 1) := by decide +kernel
theorem d_Mo_putOther_149 : decode b_Mo_putOther 149 = .ok (.ifCond .eq 9, 3) := by decide +kernel
theorem d_Mo_putOther_152 : decode b_Mo_putOther 152 = .ok (.aload_n 0, 1) := by decide +kernel
theorem d_Mo_putOther_153 : decode b_Mo_putOther 153 = .ok (.bipush 112, 2) := by decide +kernel
theorem d_Mo_putOther_155 : decode b_Mo_putOther 155 = .ok (.invokevirtual 143, 3) := by decide +kernel
theorem d_Mo_putOther_158 : decode b_Mo_putOther 158 = .ok (.iload_n 1, 1) := by decide +kernel
theorem d_Mo_putOther_159 : decode b_Mo_putOther 159 = .ok (.ifCond .eq 9, 3) := by decide +kernel
theorem d_Mo_putOther_162 : decode b_Mo_putOther 162 = .ok (.aload_n 0, 1) := by decide +kernel
theorem d_Mo_putOther_163 : decode b_Mo_putOther 163 = .ok (.bipush 48, 2) := by decide +kernel
theorem d_Mo_putOther_165 : decode b_Mo_putOther 165 = .ok (.invokevirtual 143, 3) := by decide +kernel
theorem d_Mo_putOther_168 : decode b_Mo_putOther 168 = .ok (.iload_n 2, 1) := by decide +kernel
theorem d_Mo_putOther_169 : decode b_Mo_putOther 169 = .ok (.iconst 4, 1) := by decide +kernel
theorem d_Mo_putOther_170 : decode b_Mo_putOther 170 = .ok (.if_icmp .ge 7, 3) := by decide +kernel
theorem d_Mo_putOther_173 : decode b_Mo_putOther 173 = .ok (.iconst 1, 1) := by decide +kernel
theorem d_Mo_putOther_174 : decode b_Mo_putOther 174 = .ok (.goto 4, 3) := by decide +kernel
theorem d_Mo_putOther_177 : decode b_Mo_putOther 177 = .ok (.iconst 0, 1) := by decide +kernel
theorem d_Mo_putOther_178 : decode b_Mo_putOther 178 = .ok (.ireturn, 1) := by decide +kernel
theorem d_Mo_print_0 : decode b_Mo_print 0 = .ok (.aload_n 0, 1) := by decide +kernel
theorem d_Mo_print_1 : decode b_Mo_print 1 = .ok (.iconst 0, 1) := by decide +kernel
theorem d_Mo_print_2 : decode b_Mo_print 2 = .ok (.putfield 48, 3) := by decide +kernel
theorem d_Mo_print_5 : decode b_Mo_print 5 = .ok (.aload_n 0, 1) := by decide +kernel
theorem d_Mo_print_6 : decode b_Mo_print 6 = .ok (.iconst 1, 1) := by decide +kernel
theorem d_Mo_print_7 : decode b_Mo_print 7 = .ok (.putfield 67, 3) := by decide +kernel
theorem d_Mo_print_10 : decode b_Mo_print 10 = .ok (.aload_n 0, 1) := by decide +kernel
theorem d_Mo_print_11 : decode b_Mo_print 11 = .ok (.iload_n 1, 1) := by decide +kernel
theorem d_Mo_print_12 : decode b_Mo_print 12 = .ok (.putfield 51, 3) := by decide +kernel
theorem d_Mo_print_15 : decode b_Mo_print 15 = .ok (.aload_n 0, 1) := by decide +kernel
theorem d_Mo_print_16 : decode b_Mo_print 16 = .ok (.lload_n 2, 1) := by decide +kernel
theorem d_Mo_print_17 : decode b_Mo_print 17 = .ok (.putfield 55, 3) := by decide +kernel
theorem d_Mo_print_20 : decode b_Mo_print 20 = .ok (.aload_n 0, 1) := by decide +kernel
theorem d_Mo_print_21 : decode b_Mo_print 21 = .ok (.iconst 0, 1) := by decide +kernel
theorem d_Mo_print_22 : decode b_Mo_print 22 = .ok (.putfield 140, 3) := by decide +kernel
theorem d_Mo_print_25 : decode b_Mo_print 25 = .ok (.aload_n 0, 1) := by decide +kernel
theorem d_Mo_print_26 : decode b_Mo_print 26 = .ok (.iconst 0, 1) := by decide +kernel
theorem d_Mo_print_27 : decode b_Mo_print 27 = .ok (.invokevirtual 150, 3) := by decide +kernel
theorem d_Mo_print_30 : decode b_Mo_print 30 = .ok (.ifCond .eq 8, 3) := by decide +kernel
theorem d_Mo_print_33 : decode b_Mo_print 33 = .ok (.aload_n 0, 1) := by decide +kernel
theorem d_Mo_print_34 : decode b_Mo_print 34 = .ok (.getfield 140, 3) := by decide +kernel
theorem d_Mo_print_37 : decode b_Mo_print 37 = .ok (.ireturn, 1) := by decide +kernel
theorem d_Mo_print_38 : decode b_Mo_print 38 = .ok (.aload_n 0, 1) := by decide +kernel
theorem d_Mo_print_39 : decode b_Mo_print 39 = .ok (.invokevirtual 135, 3) := by decide +kernel
theorem d_Mo_print_42 : decode b_Mo_print 42 = .ok (.aload_n 0, 1) := by decide +kernel
theorem d_Mo_print_43 : decode b_Mo_print 43 = .ok (.getfield 39, 3) := by decide +kernel
theorem d_Mo_print_46 : decode b_Mo_print 46 = .ok (.invokestatic 112, 3) := by decide +kernel
theorem d_Mo_print_49 : decode b_Mo_print 49 = .ok (.istore 4, 2) := by decide +kernel
theorem d_Mo_print_51 : decode b_Mo_print 51 = .ok (.aload_n 0, 1) := by decide +kernel
theorem d_Mo_print_52 : decode b_Mo_print 52 = .ok (.getfield 39, 3) := by decide +kernel
theorem d_Mo_print_55 : decode b_Mo_print 55 = .ok (.invokestatic 126, 3) := by decide +kernel
theorem d_Mo_print_58 : decode b_Mo_print 58 = .ok (.istore 5, 2) := by decide +kernel
theorem d_Mo_print_60 : decode b_Mo_print 60 = .ok (.iload 4, 2) := by decide +kernel
theorem d_Mo_print_62 : decode b_Mo_print 62 = .ok (.aload_n 0, 1) := by decide +kernel
theorem d_Mo_print_63 : decode b_Mo_print 63 = .ok (.getfield 96, 3) := by decide +kernel
theorem d_Mo_print_66 : decode b_Mo_print 66 = .ok (.isub, 1) := by decide +kernel
theorem d_Mo_print_67 : decode b_Mo_print 67 = .ok (.istore 6, 2) := by decide +kernel
theorem d_Mo_print_69 : decode b_Mo_print 69 = .ok (.iload 6, 2) := by decide +kernel
theorem d_Mo_print_71 : decode b_Mo_print 71 = .ok (.aload_n 0, 1) := by decide +kernel
theorem d_Mo_print_72 : decode b_Mo_print 72 = .ok (.getfield 7, 3) := by decide +kernel
theorem d_Mo_print_75 : decode b_Mo_print 75 = .ok (.if_icmp .lt 16, 3) := by decide +kernel
theorem d_Mo_print_78 : decode b_Mo_print 78 = .ok (.iload 6, 2) := by decide +kernel
theorem d_Mo_print_80 : decode b_Mo_print 80 = .ok (.aload_n 0, 1) := by decide +kernel
theorem d_Mo_print_81 : decode b_Mo_print 81 = .ok (.getfield 13, 3) := by decide +kernel
theorem d_Mo_print_84 : decode b_Mo_print 84 = .ok (.if_icmp .ge 7, 3) := by decide +kernel
theorem d_Mo_print_87 : decode b_Mo_print 87 = .ok (.iconst 1, 1) := by decide +kernel
theorem d_Mo_print_88 : decode b_Mo_print 88 = .ok (.goto 4, 3) := by decide +kernel
theorem d_Mo_print_91 : decode b_Mo_print 91 = .ok (.iconst 0, 1) := by decide +kernel
theorem d_Mo_print_92 : decode b_Mo_print 92 = .ok (.istore 7, 2) := by decide +kernel
theorem d_Mo_print_94 : decode b_Mo_print 94 = .ok (.iload 7, 2) := by decide +kernel
theorem d_Mo_print_96 : decode b_Mo_print 96 = .ok (.ifCond .eq 15, 3) := by decide +kernel
theorem d_Mo_print_99 : decode b_Mo_print 99 = .ok (.iload 6, 2) := by decide +kernel
theorem d_Mo_print_101 : decode b_Mo_print 101 = .ok (.ifCond .ge 10, 3) := by decide +kernel
theorem d_Mo_print_104 : decode b_Mo_print 104 = .ok (.aload_n 0, 1) := by decide +kernel
theorem d_Mo_print_105 : decode b_Mo_print 105 = .ok (.getfield 96, 3) := by decide +kernel
theorem d_Mo_print_108 : decode b_Mo_print 108 = .ok (.goto 5, 3) := by decide +kernel
theorem d_Mo_print_111 : decode b_Mo_print 111 = .ok (.iload 4, 2) := by decide +kernel
theorem d_Mo_print_113 : decode b_Mo_print 113 = .ok (.istore 8, 2) := by decide +kernel
theorem d_Mo_print_115 : decode b_Mo_print 115 = .ok (.iload 7, 2) := by decide +kernel
theorem d_Mo_print_117 : decode b_Mo_print 117 = .ok (.ifCond .eq 10, 3) := by decide +kernel
theorem d_Mo_print_120 : decode b_Mo_print 120 = .ok (.aload_n 0, 1) := by decide +kernel
theorem d_Mo_print_121 : decode b_Mo_print 121 = .ok (.getfield 96, 3) := by decide +kernel
theorem d_Mo_print_124 : decode b_Mo_print 124 = .ok (.goto 5, 3) := by decide +kernel
theorem d_Mo_print_127 : decode b_Mo_print 127 = .ok (.iload 4, 2) := by decide +kernel
theorem d_Mo_print_129 : decode b_Mo_print 129 = .ok (.istore 9, 2) := by decide +kernel
theorem d_Mo_print_131 : decode b_Mo_print 131 = .ok (.iload 5, 2) := by decide +kernel
theorem d_Mo_print_133 : decode b_Mo_print 133 = .ok (.iload 9, 2) := by decide +kernel
theorem d_Mo_print_135 : decode b_Mo_print 135 = .ok (.if_icmp .ge 8, 3) := by decide +kernel
theorem d_Mo_print_138 : decode b_Mo_print 138 = .ok (.iload 5, 2) := by decide +kernel
theorem d_Mo_print_140 : decode b_Mo_print 140 = .ok (.goto 7, 3) := by decide +kernel
theorem d_Mo_print_143 : decode b_Mo_print 143 = .ok (.iload 9, 2) := by decide +kernel
theorem d_Mo_print_145 : decode b_Mo_print 145 = .ok (.iconst 1, 1) := by decide +kernel
theorem d_Mo_print_146 : decode b_Mo_print 146 = .ok (.isub, 1) := by decide +kernel
theorem d_Mo_print_147 : decode b_Mo_print 147 = .ok (.istore 10, 2) := by decide +kernel
theorem d_Mo_print_149 : decode b_Mo_print 149 = .ok (.iload 8, 2) := by decide +kernel
theorem d_Mo_print_151 : decode b_Mo_print 151 = .ok (.istore 11, 2) := by decide +kernel
theorem d_Mo_print_153 : decode b_Mo_print 153 = .ok (.iload 11, 2) := by decide +kernel
theorem d_Mo_print_155 : decode b_Mo_print 155 = .ok (.iload 10, 2) := by decide +kernel
theorem d_Mo_print_157 : decode b_Mo_print 157 = .ok (.if_icmp .lt 45, 3) := by decide +kernel
theorem d_Mo_print_160 : decode b_Mo_print 160 = .ok (.aload_n 0, 1) := by decide +kernel
theorem d_Mo_print_161 : decode b_Mo_print 161 = .ok (.bipush 48, 2) := by decide +kernel
theorem d_Mo_print_163 : decode b_Mo_print 163 = .ok (.iload 11, 2) := by decide +kernel
theorem d_Mo_print_165 : decode b_Mo_print 165 = .ok (.ifCond .ge 7, 3) := by decide +kernel
theorem d_Mo_print_168 : decode b_Mo_print 168 = .ok (.iconst 0, 1) := by decide +kernel
theorem d_Mo_print_169 : decode b_Mo_print 169 = .ok (.goto 10, 3) := by decide +kernel
theorem d_Mo_print_172 : decode b_Mo_print 172 = .ok (.aload_n 0, 1) := by decide +kernel
theorem d_Mo_print_173 : decode b_Mo_print 173 = .ok (.getfield 39, 3) := by decide +kernel
theorem d_Mo_print_176 : decode b_Mo_print 176 = .ok (.iload 11, 2) := by decide +kernel
theorem d_Mo_print_178 : decode b_Mo_print 178 = .ok (.iaload, 1) := by decide +kernel
theorem d_Mo_print_179 : decode b_Mo_print 179 = .ok (.iadd, 1) := by decide +kernel
theorem d_Mo_print_180 : decode b_Mo_print 180 = .ok (.invokevirtual 143, 3) := by decide +kernel
theorem d_Mo_print_183 : decode b_Mo_print 183 = .ok (.iload 11, 2) := by decide +kernel
theorem d_Mo_print_185 : decode b_Mo_print 185 = .ok (.iload 9, 2) := by decide +kernel
theorem d_Mo_print_187 : decode b_Mo_print 187 = .ok (.if_icmp .ne 9, 3) := by decide +kernel
theorem d_Mo_print_190 : decode b_Mo_print 190 = .ok (.aload_n 0, 1) := by decide +kernel
theorem d_Mo_print_191 : decode b_Mo_print 191 = .ok (.bipush 46, 2) := by decide +kernel
theorem d_Mo_print_193 : decode b_Mo_print 193 = .ok (.invokevirtual 143, 3) := by decide +kernel
theorem d_Mo_print_196 : decode b_Mo_print 196 = .ok (.iinc 11 (-1), 3) := by decide +kernel
theorem d_Mo_print_199 : decode b_Mo_print 199 = .ok (.goto (-46), 3) := by decide +kernel
theorem d_Mo_print_202 : decode b_Mo_print 202 = .ok (.iload 7, 2) := by decide +kernel
theorem d_Mo_print_204 : decode b_Mo_print 204 = .ok (.ifCond .ne 15, 3) := by decide +kernel
theorem d_Mo_print_207 : decode b_Mo_print 207 = .ok (.aload_n 0, 1) := by decide +kernel
theorem d_Mo_print_208 : decode b_Mo_print 208 = .ok (.bipush 69, 2) := by decide +kernel
theorem d_Mo_print_210 : decode b_Mo_print 210 = .ok (.invokevirtual 143, 3) := by decide +kernel
theorem d_Mo_print_213 : decode b_Mo_print 213 = .ok (.aload_n 0, 1) := by decide +kernel
theorem d_Mo_print_214 : decode b_Mo_print 214 = .ok (.iload 6, 2) := by decide +kernel
theorem d_Mo_print_216 : decode b_Mo_print 216 = .ok (.invokevirtual 154, 3) := by decide +kernel
theorem d_Mo_print_219 : decode b_Mo_print 219 = .ok (.aload_n 0, 1) := by decide +kernel
theorem d_Mo_print_220 : decode b_Mo_print 220 = .ok (.getfield 140, 3) := by decide +kernel
theorem d_Mo_print_223 : decode b_Mo_print 223 = .ok (.ireturn, 1) := by decide +kernel
theorem d_Mo_wide_0 : decode b_Mo_wide 0 = .ok (.aload_n 0, 1) := by decide +kernel
theorem d_Mo_wide_1 : decode b_Mo_wide 1 = .ok (.iconst 1, 1) := by decide +kernel
theorem d_Mo_wide_2 : decode b_Mo_wide 2 = .ok (.lload_n 1, 1) := by decide +kernel
theorem d_Mo_wide_3 : decode b_Mo_wide 3 = .ok (.invokevirtual 157, 3) := by decide +kernel
theorem d_Mo_wide_6 : decode b_Mo_wide 6 = .ok (.ireturn, 1) := by decide +kernel
theorem d_Mo_narrow_0 : decode b_Mo_narrow 0 = .ok (.aload_n 0, 1) := by decide +kernel
theorem d_Mo_narrow_1 : decode b_Mo_narrow 1 = .ok (.iconst 0, 1) := by decide +kernel
theorem d_Mo_narrow_2 : decode b_Mo_narrow 2 = .ok (.iload_n 1, 1) := by decide +kernel
theorem d_Mo_narrow_3 : decode b_Mo_narrow 3 = .ok (.i2l, 1) := by decide +kernel
theorem d_Mo_narrow_4 : decode b_Mo_narrow 4 = .ok (.invokevirtual 157, 3) := by decide +kernel
theorem d_Mo_narrow_7 : decode b_Mo_narrow 7 = .ok (.ireturn, 1) := by decide +kernel
theorem d_Mo_printHex_0 : decode b_Mo_printHex 0 = .ok (.aload_n 0, 1) := by decide +kernel
theorem d_Mo_printHex_1 : decode b_Mo_printHex 1 = .ok (.iconst 0, 1) := by decide +kernel
theorem d_Mo_printHex_2 : decode b_Mo_printHex 2 = .ok (.putfield 48, 3) := by decide +kernel
theorem d_Mo_printHex_5 : decode b_Mo_printHex 5 = .ok (.aload_n 0, 1) := by decide +kernel
theorem d_Mo_printHex_6 : decode b_Mo_printHex 6 = .ok (.iconst 1, 1) := by decide +kernel
theorem d_Mo_printHex_7 : decode b_Mo_printHex 7 = .ok (.putfield 67, 3) := by decide +kernel
theorem d_Mo_printHex_10 : decode b_Mo_printHex 10 = .ok (.aload_n 0, 1) := by decide +kernel
theorem d_Mo_printHex_11 : decode b_Mo_printHex 11 = .ok (.iload_n 1, 1) := by decide +kernel
theorem d_Mo_printHex_12 : decode b_Mo_printHex 12 = .ok (.putfield 51, 3) := by decide +kernel
theorem d_Mo_printHex_15 : decode b_Mo_printHex 15 = .ok (.aload_n 0, 1) := by decide +kernel
theorem d_Mo_printHex_16 : decode b_Mo_printHex 16 = .ok (.lload_n 2, 1) := by decide +kernel
theorem d_Mo_printHex_17 : decode b_Mo_printHex 17 = .ok (.putfield 55, 3) := by decide +kernel
theorem d_Mo_printHex_20 : decode b_Mo_printHex 20 = .ok (.aload_n 0, 1) := by decide +kernel
theorem d_Mo_printHex_21 : decode b_Mo_printHex 21 = .ok (.iconst 0, 1) := by decide +kernel
theorem d_Mo_printHex_22 : decode b_Mo_printHex 22 = .ok (.putfield 140, 3) := by decide +kernel
theorem d_Mo_printHex_25 : decode b_Mo_printHex 25 = .ok (.aload_n 0, 1) := by decide +kernel
theorem d_Mo_printHex_26 : decode b_Mo_printHex 26 = .ok (.iconst 1, 1) := by decide +kernel
theorem d_Mo_printHex_27 : decode b_Mo_printHex 27 = .ok (.invokevirtual 150, 3) := by decide +kernel
theorem d_Mo_printHex_30 : decode b_Mo_printHex 30 = .ok (.ifCond .eq 8, 3) := by decide +kernel
theorem d_Mo_printHex_33 : decode b_Mo_printHex 33 = .ok (.aload_n 0, 1) := by decide +kernel
theorem d_Mo_printHex_34 : decode b_Mo_printHex 34 = .ok (.getfield 140, 3) := by decide +kernel
theorem d_Mo_printHex_37 : decode b_Mo_printHex 37 = .ok (.ireturn, 1) := by decide +kernel
theorem d_Mo_printHex_38 : decode b_Mo_printHex 38 = .ok (.aload_n 0, 1) := by decide +kernel
theorem d_Mo_printHex_39 : decode b_Mo_printHex 39 = .ok (.invokevirtual 63, 3) := by decide +kernel
theorem d_Mo_printHex_42 : decode b_Mo_printHex 42 = .ok (.istore 4, 2) := by decide +kernel
theorem d_Mo_printHex_44 : decode b_Mo_printHex 44 = .ok (.aload_n 0, 1) := by decide +kernel
theorem d_Mo_printHex_45 : decode b_Mo_printHex 45 = .ok (.bipush 48, 2) := by decide +kernel
theorem d_Mo_printHex_47 : decode b_Mo_printHex 47 = .ok (.invokevirtual 143, 3) := by decide +kernel
theorem d_Mo_printHex_50 : decode b_Mo_printHex 50 = .ok (.aload_n 0, 1) := by decide +kernel
theorem d_Mo_printHex_51 : decode b_Mo_printHex 51 = .ok (.bipush 120, 2) := by decide +kernel
theorem d_Mo_printHex_53 : decode b_Mo_printHex 53 = .ok (.invokevirtual 143, 3) := by decide +kernel
theorem d_Mo_printHex_56 : decode b_Mo_printHex 56 = .ok (.aload_n 0, 1) := by decide +kernel
theorem d_Mo_printHex_57 : decode b_Mo_printHex 57 = .ok (.iload 4, 2) := by decide +kernel
theorem d_Mo_printHex_59 : decode b_Mo_printHex 59 = .ok (.ifCond .le 8, 3) := by decide +kernel
theorem d_Mo_printHex_62 : decode b_Mo_printHex 62 = .ok (.bipush 49, 2) := by decide +kernel
theorem d_Mo_printHex_64 : decode b_Mo_printHex 64 = .ok (.goto 5, 3) := by decide +kernel
theorem d_Mo_printHex_67 : decode b_Mo_printHex 67 = .ok (.bipush 48, 2) := by decide +kernel
theorem d_Mo_printHex_69 : decode b_Mo_printHex 69 = .ok (.invokevirtual 143, 3) := by decide +kernel
theorem d_Mo_printHex_72 : decode b_Mo_printHex 72 = .ok (.aload_n 0, 1) := by decide +kernel
theorem d_Mo_printHex_73 : decode b_Mo_printHex 73 = .ok (.bipush 46, 2) := by decide +kernel
theorem d_Mo_printHex_75 : decode b_Mo_printHex 75 = .ok (.invokevirtual 143, 3) := by decide +kernel
theorem d_Mo_printHex_78 : decode b_Mo_printHex 78 = .ok (.iload_n 1, 1) := by decide +kernel
theorem d_Mo_printHex_79 : decode b_Mo_printHex 79 = .ok (.ifCond .eq 10, 3) := by decide +kernel
theorem d_Mo_printHex_82 : decode b_Mo_printHex 82 = .ok (.aload_n 0, 1) := by decide +kernel
theorem d_Mo_printHex_83 : decode b_Mo_printHex 83 = .ok (.invokevirtual 74, 3) := by decide +kernel
theorem d_Mo_printHex_86 : decode b_Mo_printHex 86 = .ok (.goto 11, 3) := by decide +kernel
theorem d_Mo_printHex_89 : decode b_Mo_printHex 89 = .ok (.ldc2_w 86, 3) := by decide +kernel
theorem d_Mo_printHex_92 : decode b_Mo_printHex 92 = .ok (.aload_n 0, 1) := by decide +kernel
theorem d_Mo_printHex_93 : decode b_Mo_printHex 93 = .ok (.invokevirtual 74, 3) := by decide +kernel
theorem d_Mo_printHex_96 : decode b_Mo_printHex 96 = .ok (.lmul, 1) := by decide +kernel
theorem d_Mo_printHex_97 : decode b_Mo_printHex 97 = .ok (.lstore 5, 2) := by decide +kernel
theorem d_Mo_printHex_99 : decode b_Mo_printHex 99 = .ok (.iload_n 1, 1) := by decide +kernel
theorem d_Mo_printHex_100 : decode b_Mo_printHex 100 = .ok (.ifCond .eq 8, 3) := by decide +kernel
theorem d_Mo_printHex_103 : decode b_Mo_printHex 103 = .ok (.bipush 13, 2) := by decide +kernel
theorem d_Mo_printHex_105 : decode b_Mo_printHex 105 = .ok (.goto 5, 3) := by decide +kernel
theorem d_Mo_printHex_108 : decode b_Mo_printHex 108 = .ok (.bipush 6, 2) := by decide +kernel
theorem d_Mo_printHex_110 : decode b_Mo_printHex 110 = .ok (.istore 7, 2) := by decide +kernel
theorem d_Mo_printHex_112 : decode b_Mo_printHex 112 = .ok (.iload 7, 2) := by decide +kernel
theorem d_Mo_printHex_114 : decode b_Mo_printHex 114 = .ok (.iconst 1, 1) := by decide +kernel
theorem d_Mo_printHex_115 : decode b_Mo_printHex 115 = .ok (.isub, 1) := by decide +kernel
theorem d_Mo_printHex_116 : decode b_Mo_printHex 116 = .ok (.istore 8, 2) := by decide +kernel
theorem d_Mo_printHex_118 : decode b_Mo_printHex 118 = .ok (.iload 8, 2) := by decide +kernel
theorem d_Mo_printHex_120 : decode b_Mo_printHex 120 = .ok (.ifCond .lt 79, 3) := by decide +kernel
theorem d_Mo_printHex_123 : decode b_Mo_printHex 123 = .ok (.iload 8, 2) := by decide +kernel
theorem d_Mo_printHex_125 : decode b_Mo_printHex 125 = .ok (.iload 7, 2) := by decide +kernel
theorem d_Mo_printHex_127 : decode b_Mo_printHex 127 = .ok (.iconst 1, 1) := by decide +kernel
theorem d_Mo_printHex_128 : decode b_Mo_printHex 128 = .ok (.isub, 1) := by decide +kernel
theorem d_Mo_printHex_129 : decode b_Mo_printHex 129 = .ok (.if_icmp .ge 24, 3) := by decide +kernel
theorem d_Mo_printHex_132 : decode b_Mo_printHex 132 = .ok (.lload 5, 2) := by decide +kernel
theorem d_Mo_printHex_134 : decode b_Mo_printHex 134 = .ok (.lconst 1, 1) := by decide +kernel
theorem d_Mo_printHex_135 : decode b_Mo_printHex 135 = .ok (.iconst 4, 1) := by decide +kernel
theorem d_Mo_printHex_136 : decode b_Mo_printHex 136 = .ok (.iload 8, 2) := by decide +kernel
theorem d_Mo_printHex_138 : decode b_Mo_printHex 138 = .ok (.imul, 1) := by decide +kernel
theorem d_Mo_printHex_139 : decode b_Mo_printHex 139 = .ok (.iconst 4, 1) := by decide +kernel
theorem d_Mo_printHex_140 : decode b_Mo_printHex 140 = .ok (.iadd, 1) := by decide +kernel
theorem d_Mo_printHex_141 : decode b_Mo_printHex 141 = .ok (.lshl, 1) := by decide +kernel
theorem d_Mo_printHex_142 : decode b_Mo_printHex 142 = .ok (.lconst 1, 1) := by decide +kernel
theorem d_Mo_printHex_143 : decode b_Mo_printHex 143 = .ok (.lsub, 1) := by decide +kernel
theorem d_Mo_printHex_144 : decode b_Mo_printHex 144 = .ok (.land, 1) := by decide +kernel
theorem d_Mo_printHex_145 : decode b_Mo_printHex 145 = .ok (.lconst 0, 1) := by decide +kernel
theorem d_Mo_printHex_146 : decode b_Mo_printHex 146 = .ok (.lcmp, 1) := by decide +kernel
theorem d_Mo_printHex_147 : decode b_Mo_printHex 147 = .ok (.ifCond .ne 6, 3) := by decide +kernel
theorem d_Mo_printHex_150 : decode b_Mo_printHex 150 = .ok (.goto 43, 3) := by decide +kernel
theorem d_Mo_printHex_153 : decode b_Mo_printHex 153 = .ok (.lload 5, 2) := by decide +kernel
theorem d_Mo_printHex_155 : decode b_Mo_printHex 155 = .ok (.iconst 4, 1) := by decide +kernel
theorem d_Mo_printHex_156 : decode b_Mo_printHex 156 = .ok (.iload 8, 2) := by decide +kernel
theorem d_Mo_printHex_158 : decode b_Mo_printHex 158 = .ok (.imul, 1) := by decide +kernel
theorem d_Mo_printHex_159 : decode b_Mo_printHex 159 = .ok (.lshr, 1) := by decide +kernel
theorem d_Mo_printHex_160 : decode b_Mo_printHex 160 = .ok (.l2i, 1) := by decide +kernel
theorem d_Mo_printHex_161 : decode b_Mo_printHex 161 = .ok (.bipush 15, 2) := by decide +kernel
theorem d_Mo_printHex_163 : decode b_Mo_printHex 163 = .ok (.iand, 1) := by decide +kernel
theorem d_Mo_printHex_164 : decode b_Mo_printHex 164 = .ok (.istore 9, 2) := by decide +kernel
theorem d_Mo_printHex_166 : decode b_Mo_printHex 166 = .ok (.aload_n 0, 1) := by decide +kernel
theorem d_Mo_printHex_167 : decode b_Mo_printHex 167 = .ok (.iload 9, 2) := by decide +kernel
theorem d_Mo_printHex_169 : decode b_Mo_printHex 169 = .ok (.bipush 10, 2) := by decide +kernel
theorem d_Mo_printHex_171 : decode b_Mo_printHex 171 = .ok (.if_icmp .ge 11, 3) := by decide +kernel
theorem d_Mo_printHex_174 : decode b_Mo_printHex 174 = .ok (.bipush 48, 2) := by decide +kernel
theorem d_Mo_printHex_176 : decode b_Mo_printHex 176 = .ok (.iload 9, 2) := by decide +kernel
theorem d_Mo_printHex_178 : decode b_Mo_printHex 178 = .ok (.iadd, 1) := by decide +kernel
theorem d_Mo_printHex_179 : decode b_Mo_printHex 179 = .ok (.goto 11, 3) := by decide +kernel
theorem d_Mo_printHex_182 : decode b_Mo_printHex 182 = .ok (.bipush 97, 2) := by decide +kernel
theorem d_Mo_printHex_184 : decode b_Mo_printHex 184 = .ok (.iload 9, 2) := by decide +kernel
theorem d_Mo_printHex_186 : decode b_Mo_printHex 186 = .ok (.iadd, 1) := by decide +kernel
theorem d_Mo_printHex_187 : decode b_Mo_printHex 187 = .ok (.bipush 10, 2) := by decide +kernel
theorem d_Mo_printHex_189 : decode b_Mo_printHex 189 = .ok (.isub, 1) := by decide +kernel
theorem d_Mo_printHex_190 : decode b_Mo_printHex 190 = .ok (.invokevirtual 143, 3) := by decide +kernel
theorem d_Mo_printHex_193 : decode b_Mo_printHex 193 = .ok (.iinc 8 (-1), 3) := by decide +kernel
theorem d_Mo_printHex_196 : decode b_Mo_printHex 196 = .ok (.goto (-78), 3) := by decide +kernel
theorem d_Mo_printHex_199 : decode b_Mo_printHex 199 = .ok (.aload_n 0, 1) := by decide +kernel
theorem d_Mo_printHex_200 : decode b_Mo_printHex 200 = .ok (.bipush 112, 2) := by decide +kernel
theorem d_Mo_printHex_202 : decode b_Mo_printHex 202 = .ok (.invokevirtual 143, 3) := by decide +kernel
theorem d_Mo_printHex_205 : decode b_Mo_printHex 205 = .ok (.aload_n 0, 1) := by decide +kernel
theorem d_Mo_printHex_206 : decode b_Mo_printHex 206 = .ok (.iload 4, 2) := by decide +kernel
theorem d_Mo_printHex_208 : decode b_Mo_printHex 208 = .ok (.ifCond .ne 18, 3) := by decide +kernel
theorem d_Mo_printHex_211 : decode b_Mo_printHex 211 = .ok (.iload_n 1, 1) := by decide +kernel
theorem d_Mo_printHex_212 : decode b_Mo_printHex 212 = .ok (.ifCond .eq 9, 3) := by decide +kernel
theorem d_Mo_printHex_215 : decode b_Mo_printHex 215 = .ok (.sipush (-1022), 3) := by decide +kernel
theorem d_Mo_printHex_218 : decode b_Mo_printHex 218 = .ok (.goto 23, 3) := by decide +kernel
theorem d_Mo_printHex_221 : decode b_Mo_printHex 221 = .ok (.bipush (-126), 2) := by decide +kernel
theorem d_Mo_printHex_223 : decode b_Mo_printHex 223 = .ok (.goto 18, 3) := by decide +kernel
theorem d_Mo_printHex_226 : decode b_Mo_printHex 226 = .ok (.iload 4, 2) := by decide +kernel
theorem d_Mo_printHex_228 : decode b_Mo_printHex 228 = .ok (.iload_n 1, 1) := by decide +kernel
theorem d_Mo_printHex_229 : decode b_Mo_printHex 229 = .ok (.ifCond .eq 9, 3) := by decide +kernel
theorem d_Mo_printHex_232 : decode b_Mo_printHex 232 = .ok (.sipush 1023, 3) := by decide +kernel
theorem d_Mo_printHex_235 : decode b_Mo_printHex 235 = .ok (.goto 5, 3) := by decide +kernel
theorem d_Mo_printHex_238 : decode b_Mo_printHex 238 = .ok (.bipush 127, 2) := by decide +kernel
theorem d_Mo_printHex_240 : decode b_Mo_printHex 240 = .ok (.isub, 1) := by decide +kernel
theorem d_Mo_printHex_241 : decode b_Mo_printHex 241 = .ok (.invokevirtual 154, 3) := by decide +kernel
theorem d_Mo_printHex_244 : decode b_Mo_printHex 244 = .ok (.aload_n 0, 1) := by decide +kernel
theorem d_Mo_printHex_245 : decode b_Mo_printHex 245 = .ok (.getfield 140, 3) := by decide +kernel
theorem d_Mo_printHex_248 : decode b_Mo_printHex 248 = .ok (.ireturn, 1) := by decide +kernel
theorem d_Mo_wideHex_0 : decode b_Mo_wideHex 0 = .ok (.aload_n 0, 1) := by decide +kernel
theorem d_Mo_wideHex_1 : decode b_Mo_wideHex 1 = .ok (.iconst 1, 1) := by decide +kernel
theorem d_Mo_wideHex_2 : decode b_Mo_wideHex 2 = .ok (.lload_n 1, 1) := by decide +kernel
theorem d_Mo_wideHex_3 : decode b_Mo_wideHex 3 = .ok (.invokevirtual 161, 3) := by decide +kernel
theorem d_Mo_wideHex_6 : decode b_Mo_wideHex 6 = .ok (.ireturn, 1) := by decide +kernel
theorem d_Mo_narrowHex_0 : decode b_Mo_narrowHex 0 = .ok (.aload_n 0, 1) := by decide +kernel
theorem d_Mo_narrowHex_1 : decode b_Mo_narrowHex 1 = .ok (.iconst 0, 1) := by decide +kernel
theorem d_Mo_narrowHex_2 : decode b_Mo_narrowHex 2 = .ok (.iload_n 1, 1) := by decide +kernel
theorem d_Mo_narrowHex_3 : decode b_Mo_narrowHex 3 = .ok (.i2l, 1) := by decide +kernel
theorem d_Mo_narrowHex_4 : decode b_Mo_narrowHex 4 = .ok (.invokevirtual 161, 3) := by decide +kernel
theorem d_Mo_narrowHex_7 : decode b_Mo_narrowHex 7 = .ok (.ireturn, 1) := by decide +kernel
theorem d_Mo_characterAt_0 : decode b_Mo_characterAt 0 = .ok (.aload_n 0, 1) := by decide +kernel
theorem d_Mo_characterAt_1 : decode b_Mo_characterAt 1 = .ok (.iconst 0, 1) := by decide +kernel
theorem d_Mo_characterAt_2 : decode b_Mo_characterAt 2 = .ok (.putfield 48, 3) := by decide +kernel
theorem d_Mo_characterAt_5 : decode b_Mo_characterAt 5 = .ok (.iload_n 1, 1) := by decide +kernel
theorem d_Mo_characterAt_6 : decode b_Mo_characterAt 6 = .ok (.ifCond .lt 11, 3) := by decide +kernel
theorem d_Mo_characterAt_9 : decode b_Mo_characterAt 9 = .ok (.iload_n 1, 1) := by decide +kernel
theorem d_Mo_characterAt_10 : decode b_Mo_characterAt 10 = .ok (.aload_n 0, 1) := by decide +kernel
theorem d_Mo_characterAt_11 : decode b_Mo_characterAt 11 = .ok (.getfield 140, 3) := by decide +kernel
theorem d_Mo_characterAt_14 : decode b_Mo_characterAt 14 = .ok (.if_icmp .lt 7, 3) := by decide +kernel
theorem d_Mo_characterAt_17 : decode b_Mo_characterAt 17 = .ok (.iconst (-1), 1) := by decide +kernel
theorem d_Mo_characterAt_18 : decode b_Mo_characterAt 18 = .ok (.goto 9, 3) := by decide +kernel
theorem d_Mo_characterAt_21 : decode b_Mo_characterAt 21 = .ok (.aload_n 0, 1) := by decide +kernel
theorem d_Mo_characterAt_22 : decode b_Mo_characterAt 22 = .ok (.getfield 16, 3) := by decide +kernel
theorem d_Mo_characterAt_25 : decode b_Mo_characterAt 25 = .ok (.iload_n 1, 1) := by decide +kernel
theorem d_Mo_characterAt_26 : decode b_Mo_characterAt 26 = .ok (.iaload, 1) := by decide +kernel
theorem d_Mo_characterAt_27 : decode b_Mo_characterAt 27 = .ok (.ireturn, 1) := by decide +kernel
theorem d_Lw_law_0 : decode code 0 = .ok (.new 7, 3) := by decide +kernel
theorem d_Lw_law_3 : decode code 3 = .ok (.dup, 1) := by decide +kernel
theorem d_Lw_law_4 : decode code 4 = .ok (.invokespecial 9, 3) := by decide +kernel
theorem d_Lw_law_7 : decode code 7 = .ok (.astore_n 1, 1) := by decide +kernel
theorem d_Lw_law_8 : decode code 8 = .ok (.new 10, 3) := by decide +kernel
theorem d_Lw_law_11 : decode code 11 = .ok (.dup, 1) := by decide +kernel
theorem d_Lw_law_12 : decode code 12 = .ok (.invokespecial 12, 3) := by decide +kernel
theorem d_Lw_law_15 : decode code 15 = .ok (.astore_n 2, 1) := by decide +kernel
theorem d_Lw_law_16 : decode code 16 = .ok (.iconst 0, 1) := by decide +kernel
theorem d_Lw_law_17 : decode code 17 = .ok (.istore_n 3, 1) := by decide +kernel
theorem d_Lw_law_18 : decode code 18 = .ok (.iload_n 3, 1) := by decide +kernel
theorem d_Lw_law_19 : decode code 19 = .ok (.aload_n 0, 1) := by decide +kernel
theorem d_Lw_law_20 : decode code 20 = .ok (.arraylength, 1) := by decide +kernel
theorem d_Lw_law_21 : decode code 21 = .ok (.iconst 3, 1) := by decide +kernel
theorem d_Lw_law_22 : decode code 22 = .ok (.isub, 1) := by decide +kernel
theorem d_Lw_law_23 : decode code 23 = .ok (.if_icmp .gt 332, 3) := by decide +kernel
theorem d_Lw_law_26 : decode code 26 = .ok (.aload_n 0, 1) := by decide +kernel
theorem d_Lw_law_27 : decode code 27 = .ok (.iload_n 3, 1) := by decide +kernel
theorem d_Lw_law_28 : decode code 28 = .ok (.iaload, 1) := by decide +kernel
theorem d_Lw_law_29 : decode code 29 = .ok (.bipush 15, 2) := by decide +kernel
theorem d_Lw_law_31 : decode code 31 = .ok (.iand, 1) := by decide +kernel
theorem d_Lw_law_32 : decode code 32 = .ok (.tableswitch 317 0 9 #[56, 89, 142, 165, 218, 241, 264, 277, 290, 304], 56) := by decide +kernel
theorem d_Lw_law_88 : decode code 88 = .ok (.aload_n 1, 1) := by decide +kernel
theorem d_Lw_law_89 : decode code 89 = .ok (.aload_n 0, 1) := by decide +kernel
theorem d_Lw_law_90 : decode code 90 = .ok (.iload_n 3, 1) := by decide +kernel
theorem d_Lw_law_91 : decode code 91 = .ok (.iconst 1, 1) := by decide +kernel
theorem d_Lw_law_92 : decode code 92 = .ok (.iadd, 1) := by decide +kernel
theorem d_Lw_law_93 : decode code 93 = .ok (.iaload, 1) := by decide +kernel
theorem d_Lw_law_94 : decode code 94 = .ok (.aload_n 0, 1) := by decide +kernel
theorem d_Lw_law_95 : decode code 95 = .ok (.iload_n 3, 1) := by decide +kernel
theorem d_Lw_law_96 : decode code 96 = .ok (.iconst 2, 1) := by decide +kernel
theorem d_Lw_law_97 : decode code 97 = .ok (.iadd, 1) := by decide +kernel
theorem d_Lw_law_98 : decode code 98 = .ok (.iaload, 1) := by decide +kernel
theorem d_Lw_law_99 : decode code 99 = .ok (.invokevirtual 13, 3) := by decide +kernel
theorem d_Lw_law_102 : decode code 102 = .ok (.aload_n 2, 1) := by decide +kernel
theorem d_Lw_law_103 : decode code 103 = .ok (.aload_n 0, 1) := by decide +kernel
theorem d_Lw_law_104 : decode code 104 = .ok (.iload_n 3, 1) := by decide +kernel
theorem d_Lw_law_105 : decode code 105 = .ok (.iconst 1, 1) := by decide +kernel
theorem d_Lw_law_106 : decode code 106 = .ok (.iadd, 1) := by decide +kernel
theorem d_Lw_law_107 : decode code 107 = .ok (.iaload, 1) := by decide +kernel
theorem d_Lw_law_108 : decode code 108 = .ok (.aload_n 0, 1) := by decide +kernel
theorem d_Lw_law_109 : decode code 109 = .ok (.iload_n 3, 1) := by decide +kernel
theorem d_Lw_law_110 : decode code 110 = .ok (.iconst 2, 1) := by decide +kernel
theorem d_Lw_law_111 : decode code 111 = .ok (.iadd, 1) := by decide +kernel
theorem d_Lw_law_112 : decode code 112 = .ok (.iaload, 1) := by decide +kernel
theorem d_Lw_law_113 : decode code 113 = .ok (.invokevirtual 17, 3) := by decide +kernel
theorem d_Lw_law_116 : decode code 116 = .ok (.if_icmp .eq 233, 3) := by decide +kernel
theorem d_Lw_law_119 : decode code 119 = .ok (.iconst 0, 1) := by decide +kernel
theorem d_Lw_law_120 : decode code 120 = .ok (.ireturn, 1) := by decide +kernel
theorem d_Lw_law_121 : decode code 121 = .ok (.aload_n 1, 1) := by decide +kernel
theorem d_Lw_law_122 : decode code 122 = .ok (.aload_n 0, 1) := by decide +kernel
theorem d_Lw_law_123 : decode code 123 = .ok (.iload_n 3, 1) := by decide +kernel
theorem d_Lw_law_124 : decode code 124 = .ok (.iconst 1, 1) := by decide +kernel
theorem d_Lw_law_125 : decode code 125 = .ok (.iadd, 1) := by decide +kernel
theorem d_Lw_law_126 : decode code 126 = .ok (.iaload, 1) := by decide +kernel
theorem d_Lw_law_127 : decode code 127 = .ok (.i2l, 1) := by decide +kernel
theorem d_Lw_law_128 : decode code 128 = .ok (.bipush 32, 2) := by decide +kernel
theorem d_Lw_law_130 : decode code 130 = .ok (.lshl, 1) := by decide +kernel
theorem d_Lw_law_131 : decode code 131 = .ok (.aload_n 0, 1) := by decide +kernel
theorem d_Lw_law_132 : decode code 132 = .ok (.iload_n 3, 1) := by decide +kernel
theorem d_Lw_law_133 : decode code 133 = .ok (.iconst 2, 1) := by decide +kernel
theorem d_Lw_law_134 : decode code 134 = .ok (.iadd, 1) := by decide +kernel
theorem d_Lw_law_135 : decode code 135 = .ok (.iaload, 1) := by decide +kernel
theorem d_Lw_law_136 : decode code 136 = .ok (.i2l, 1) := by decide +kernel
theorem d_Lw_law_137 : decode code 137 = .ok (.ldc2_w 18, 3) := by decide +kernel
theorem d_Lw_law_140 : decode code 140 = .ok (.land, 1) := by decide +kernel
theorem d_Lw_law_141 : decode code 141 = .ok (.lor, 1) := by decide +kernel
theorem d_Lw_law_142 : decode code 142 = .ok (.invokevirtual 20, 3) := by decide +kernel
theorem d_Lw_law_145 : decode code 145 = .ok (.aload_n 2, 1) := by decide +kernel
theorem d_Lw_law_146 : decode code 146 = .ok (.aload_n 0, 1) := by decide +kernel
theorem d_Lw_law_147 : decode code 147 = .ok (.iload_n 3, 1) := by decide +kernel
theorem d_Lw_law_148 : decode code 148 = .ok (.iconst 1, 1) := by decide +kernel
theorem d_Lw_law_149 : decode code 149 = .ok (.iadd, 1) := by decide +kernel
theorem d_Lw_law_150 : decode code 150 = .ok (.iaload, 1) := by decide +kernel
theorem d_Lw_law_151 : decode code 151 = .ok (.i2l, 1) := by decide +kernel
theorem d_Lw_law_152 : decode code 152 = .ok (.bipush 32, 2) := by decide +kernel
theorem d_Lw_law_154 : decode code 154 = .ok (.lshl, 1) := by decide +kernel
theorem d_Lw_law_155 : decode code 155 = .ok (.aload_n 0, 1) := by decide +kernel
theorem d_Lw_law_156 : decode code 156 = .ok (.iload_n 3, 1) := by decide +kernel
theorem d_Lw_law_157 : decode code 157 = .ok (.iconst 2, 1) := by decide +kernel
theorem d_Lw_law_158 : decode code 158 = .ok (.iadd, 1) := by decide +kernel
theorem d_Lw_law_159 : decode code 159 = .ok (.iaload, 1) := by decide +kernel
theorem d_Lw_law_160 : decode code 160 = .ok (.i2l, 1) := by decide +kernel
theorem d_Lw_law_161 : decode code 161 = .ok (.ldc2_w 18, 3) := by decide +kernel
theorem d_Lw_law_164 : decode code 164 = .ok (.land, 1) := by decide +kernel
theorem d_Lw_law_165 : decode code 165 = .ok (.lor, 1) := by decide +kernel
theorem d_Lw_law_166 : decode code 166 = .ok (.invokevirtual 24, 3) := by decide +kernel
theorem d_Lw_law_169 : decode code 169 = .ok (.if_icmp .eq 180, 3) := by decide +kernel
theorem d_Lw_law_172 : decode code 172 = .ok (.iconst 0, 1) := by decide +kernel
theorem d_Lw_law_173 : decode code 173 = .ok (.ireturn, 1) := by decide +kernel
theorem d_Lw_law_174 : decode code 174 = .ok (.aload_n 1, 1) := by decide +kernel
theorem d_Lw_law_175 : decode code 175 = .ok (.aload_n 0, 1) := by decide +kernel
theorem d_Lw_law_176 : decode code 176 = .ok (.iload_n 3, 1) := by decide +kernel
theorem d_Lw_law_177 : decode code 177 = .ok (.iconst 1, 1) := by decide +kernel
theorem d_Lw_law_178 : decode code 178 = .ok (.iadd, 1) := by decide +kernel
theorem d_Lw_law_179 : decode code 179 = .ok (.iaload, 1) := by decide +kernel
theorem d_Lw_law_180 : decode code 180 = .ok (.invokevirtual 25, 3) := by decide +kernel
theorem d_Lw_law_183 : decode code 183 = .ok (.aload_n 2, 1) := by decide +kernel
theorem d_Lw_law_184 : decode code 184 = .ok (.aload_n 0, 1) := by decide +kernel
theorem d_Lw_law_185 : decode code 185 = .ok (.iload_n 3, 1) := by decide +kernel
theorem d_Lw_law_186 : decode code 186 = .ok (.iconst 1, 1) := by decide +kernel
theorem d_Lw_law_187 : decode code 187 = .ok (.iadd, 1) := by decide +kernel
theorem d_Lw_law_188 : decode code 188 = .ok (.iaload, 1) := by decide +kernel
theorem d_Lw_law_189 : decode code 189 = .ok (.invokevirtual 29, 3) := by decide +kernel
theorem d_Lw_law_192 : decode code 192 = .ok (.if_icmp .eq 157, 3) := by decide +kernel
theorem d_Lw_law_195 : decode code 195 = .ok (.iconst 0, 1) := by decide +kernel
theorem d_Lw_law_196 : decode code 196 = .ok (.ireturn, 1) := by decide +kernel
theorem d_Lw_law_197 : decode code 197 = .ok (.aload_n 1, 1) := by decide +kernel
theorem d_Lw_law_198 : decode code 198 = .ok (.aload_n 0, 1) := by decide +kernel
theorem d_Lw_law_199 : decode code 199 = .ok (.iload_n 3, 1) := by decide +kernel
theorem d_Lw_law_200 : decode code 200 = .ok (.iconst 1, 1) := by decide +kernel
theorem d_Lw_law_201 : decode code 201 = .ok (.iadd, 1) := by decide +kernel
theorem d_Lw_law_202 : decode code 202 = .ok (.iaload, 1) := by decide +kernel
theorem d_Lw_law_203 : decode code 203 = .ok (.i2l, 1) := by decide +kernel
theorem d_Lw_law_204 : decode code 204 = .ok (.bipush 32, 2) := by decide +kernel
theorem d_Lw_law_206 : decode code 206 = .ok (.lshl, 1) := by decide +kernel
theorem d_Lw_law_207 : decode code 207 = .ok (.aload_n 0, 1) := by decide +kernel
theorem d_Lw_law_208 : decode code 208 = .ok (.iload_n 3, 1) := by decide +kernel
theorem d_Lw_law_209 : decode code 209 = .ok (.iconst 2, 1) := by decide +kernel
theorem d_Lw_law_210 : decode code 210 = .ok (.iadd, 1) := by decide +kernel
theorem d_Lw_law_211 : decode code 211 = .ok (.iaload, 1) := by decide +kernel
theorem d_Lw_law_212 : decode code 212 = .ok (.i2l, 1) := by decide +kernel
theorem d_Lw_law_213 : decode code 213 = .ok (.ldc2_w 18, 3) := by decide +kernel
theorem d_Lw_law_216 : decode code 216 = .ok (.land, 1) := by decide +kernel
theorem d_Lw_law_217 : decode code 217 = .ok (.lor, 1) := by decide +kernel
theorem d_Lw_law_218 : decode code 218 = .ok (.invokevirtual 30, 3) := by decide +kernel
theorem d_Lw_law_221 : decode code 221 = .ok (.aload_n 2, 1) := by decide +kernel
theorem d_Lw_law_222 : decode code 222 = .ok (.aload_n 0, 1) := by decide +kernel
theorem d_Lw_law_223 : decode code 223 = .ok (.iload_n 3, 1) := by decide +kernel
theorem d_Lw_law_224 : decode code 224 = .ok (.iconst 1, 1) := by decide +kernel
theorem d_Lw_law_225 : decode code 225 = .ok (.iadd, 1) := by decide +kernel
theorem d_Lw_law_226 : decode code 226 = .ok (.iaload, 1) := by decide +kernel
theorem d_Lw_law_227 : decode code 227 = .ok (.i2l, 1) := by decide +kernel
theorem d_Lw_law_228 : decode code 228 = .ok (.bipush 32, 2) := by decide +kernel
theorem d_Lw_law_230 : decode code 230 = .ok (.lshl, 1) := by decide +kernel
theorem d_Lw_law_231 : decode code 231 = .ok (.aload_n 0, 1) := by decide +kernel
theorem d_Lw_law_232 : decode code 232 = .ok (.iload_n 3, 1) := by decide +kernel
theorem d_Lw_law_233 : decode code 233 = .ok (.iconst 2, 1) := by decide +kernel
theorem d_Lw_law_234 : decode code 234 = .ok (.iadd, 1) := by decide +kernel
theorem d_Lw_law_235 : decode code 235 = .ok (.iaload, 1) := by decide +kernel
theorem d_Lw_law_236 : decode code 236 = .ok (.i2l, 1) := by decide +kernel
theorem d_Lw_law_237 : decode code 237 = .ok (.ldc2_w 18, 3) := by decide +kernel
theorem d_Lw_law_240 : decode code 240 = .ok (.land, 1) := by decide +kernel
theorem d_Lw_law_241 : decode code 241 = .ok (.lor, 1) := by decide +kernel
theorem d_Lw_law_242 : decode code 242 = .ok (.invokevirtual 33, 3) := by decide +kernel
theorem d_Lw_law_245 : decode code 245 = .ok (.if_icmp .eq 104, 3) := by decide +kernel
theorem d_Lw_law_248 : decode code 248 = .ok (.iconst 0, 1) := by decide +kernel
theorem d_Lw_law_249 : decode code 249 = .ok (.ireturn, 1) := by decide +kernel
theorem d_Lw_law_250 : decode code 250 = .ok (.aload_n 1, 1) := by decide +kernel
theorem d_Lw_law_251 : decode code 251 = .ok (.aload_n 0, 1) := by decide +kernel
theorem d_Lw_law_252 : decode code 252 = .ok (.iload_n 3, 1) := by decide +kernel
theorem d_Lw_law_253 : decode code 253 = .ok (.iconst 1, 1) := by decide +kernel
theorem d_Lw_law_254 : decode code 254 = .ok (.iadd, 1) := by decide +kernel
theorem d_Lw_law_255 : decode code 255 = .ok (.iaload, 1) := by decide +kernel
theorem d_Lw_law_256 : decode code 256 = .ok (.invokevirtual 34, 3) := by decide +kernel
theorem d_Lw_law_259 : decode code 259 = .ok (.aload_n 2, 1) := by decide +kernel
theorem d_Lw_law_260 : decode code 260 = .ok (.aload_n 0, 1) := by decide +kernel
theorem d_Lw_law_261 : decode code 261 = .ok (.iload_n 3, 1) := by decide +kernel
theorem d_Lw_law_262 : decode code 262 = .ok (.iconst 1, 1) := by decide +kernel
theorem d_Lw_law_263 : decode code 263 = .ok (.iadd, 1) := by decide +kernel
theorem d_Lw_law_264 : decode code 264 = .ok (.iaload, 1) := by decide +kernel
theorem d_Lw_law_265 : decode code 265 = .ok (.invokevirtual 37, 3) := by decide +kernel
theorem d_Lw_law_268 : decode code 268 = .ok (.if_icmp .eq 81, 3) := by decide +kernel
theorem d_Lw_law_271 : decode code 271 = .ok (.iconst 0, 1) := by decide +kernel
theorem d_Lw_law_272 : decode code 272 = .ok (.ireturn, 1) := by decide +kernel
theorem d_Lw_law_273 : decode code 273 = .ok (.aload_n 1, 1) := by decide +kernel
theorem d_Lw_law_274 : decode code 274 = .ok (.aload_n 0, 1) := by decide +kernel
theorem d_Lw_law_275 : decode code 275 = .ok (.iload_n 3, 1) := by decide +kernel
theorem d_Lw_law_276 : decode code 276 = .ok (.iconst 1, 1) := by decide +kernel
theorem d_Lw_law_277 : decode code 277 = .ok (.iadd, 1) := by decide +kernel
theorem d_Lw_law_278 : decode code 278 = .ok (.iaload, 1) := by decide +kernel
theorem d_Lw_law_279 : decode code 279 = .ok (.invokevirtual 38, 3) := by decide +kernel
theorem d_Lw_law_282 : decode code 282 = .ok (.aload_n 2, 1) := by decide +kernel
theorem d_Lw_law_283 : decode code 283 = .ok (.aload_n 0, 1) := by decide +kernel
theorem d_Lw_law_284 : decode code 284 = .ok (.iload_n 3, 1) := by decide +kernel
theorem d_Lw_law_285 : decode code 285 = .ok (.iconst 1, 1) := by decide +kernel
theorem d_Lw_law_286 : decode code 286 = .ok (.iadd, 1) := by decide +kernel
theorem d_Lw_law_287 : decode code 287 = .ok (.iaload, 1) := by decide +kernel
theorem d_Lw_law_288 : decode code 288 = .ok (.invokevirtual 41, 3) := by decide +kernel
theorem d_Lw_law_291 : decode code 291 = .ok (.if_icmp .eq 58, 3) := by decide +kernel
theorem d_Lw_law_294 : decode code 294 = .ok (.iconst 0, 1) := by decide +kernel
theorem d_Lw_law_295 : decode code 295 = .ok (.ireturn, 1) := by decide +kernel
theorem d_Lw_law_296 : decode code 296 = .ok (.aload_n 1, 1) := by decide +kernel
theorem d_Lw_law_297 : decode code 297 = .ok (.invokevirtual 42, 3) := by decide +kernel
theorem d_Lw_law_300 : decode code 300 = .ok (.aload_n 2, 1) := by decide +kernel
theorem d_Lw_law_301 : decode code 301 = .ok (.invokevirtual 46, 3) := by decide +kernel
theorem d_Lw_law_304 : decode code 304 = .ok (.if_icmp .eq 45, 3) := by decide +kernel
theorem d_Lw_law_307 : decode code 307 = .ok (.iconst 0, 1) := by decide +kernel
theorem d_Lw_law_308 : decode code 308 = .ok (.ireturn, 1) := by decide +kernel
theorem d_Lw_law_309 : decode code 309 = .ok (.aload_n 1, 1) := by decide +kernel
theorem d_Lw_law_310 : decode code 310 = .ok (.invokevirtual 47, 3) := by decide +kernel
theorem d_Lw_law_313 : decode code 313 = .ok (.aload_n 2, 1) := by decide +kernel
theorem d_Lw_law_314 : decode code 314 = .ok (.invokevirtual 51, 3) := by decide +kernel
theorem d_Lw_law_317 : decode code 317 = .ok (.if_icmp .eq 32, 3) := by decide +kernel
theorem d_Lw_law_320 : decode code 320 = .ok (.iconst 0, 1) := by decide +kernel
theorem d_Lw_law_321 : decode code 321 = .ok (.ireturn, 1) := by decide +kernel
theorem d_Lw_law_322 : decode code 322 = .ok (.aload_n 1, 1) := by decide +kernel
theorem d_Lw_law_323 : decode code 323 = .ok (.invokevirtual 52, 3) := by decide +kernel
theorem d_Lw_law_326 : decode code 326 = .ok (.aload_n 2, 1) := by decide +kernel
theorem d_Lw_law_327 : decode code 327 = .ok (.invokevirtual 56, 3) := by decide +kernel
theorem d_Lw_law_330 : decode code 330 = .ok (.lcmp, 1) := by decide +kernel
theorem d_Lw_law_331 : decode code 331 = .ok (.ifCond .eq 18, 3) := by decide +kernel
theorem d_Lw_law_334 : decode code 334 = .ok (.iconst 0, 1) := by decide +kernel
theorem d_Lw_law_335 : decode code 335 = .ok (.ireturn, 1) := by decide +kernel
theorem d_Lw_law_336 : decode code 336 = .ok (.aload_n 1, 1) := by decide +kernel
theorem d_Lw_law_337 : decode code 337 = .ok (.invokevirtual 57, 3) := by decide +kernel
theorem d_Lw_law_340 : decode code 340 = .ok (.aload_n 2, 1) := by decide +kernel
theorem d_Lw_law_341 : decode code 341 = .ok (.invokevirtual 60, 3) := by decide +kernel
theorem d_Lw_law_344 : decode code 344 = .ok (.if_icmp .eq 5, 3) := by decide +kernel
theorem d_Lw_law_347 : decode code 347 = .ok (.iconst 0, 1) := by decide +kernel
theorem d_Lw_law_348 : decode code 348 = .ok (.ireturn, 1) := by decide +kernel
theorem d_Lw_law_349 : decode code 349 = .ok (.iinc 3 3, 3) := by decide +kernel
theorem d_Lw_law_352 : decode code 352 = .ok (.goto (-334), 3) := by decide +kernel
theorem d_Lw_law_355 : decode code 355 = .ok (.iconst 1, 1) := by decide +kernel
theorem d_Lw_law_356 : decode code 356 = .ok (.ireturn, 1) := by decide +kernel
