theorem d_Bt_init_0 : decode b_Bt_init 0 = .ok (.aload_n 0, 1) := by decide +kernel
theorem d_Bt_init_1 : decode b_Bt_init 1 = .ok (.invokespecial 1, 3) := by decide +kernel
theorem d_Bt_init_4 : decode b_Bt_init 4 = .ok (.aload_n 0, 1) := by decide +kernel
theorem d_Bt_init_5 : decode b_Bt_init 5 = .ok (.new 7, 3) := by decide +kernel
theorem d_Bt_init_8 : decode b_Bt_init 8 = .ok (.dup, 1) := by decide +kernel
theorem d_Bt_init_9 : decode b_Bt_init 9 = .ok (.invokespecial 9, 3) := by decide +kernel
theorem d_Bt_init_12 : decode b_Bt_init 12 = .ok (.putfield 10, 3) := by decide +kernel
theorem d_Bt_init_15 : decode b_Bt_init 15 = .ok (.aload_n 0, 1) := by decide +kernel
theorem d_Bt_init_16 : decode b_Bt_init 16 = .ok (.new 16, 3) := by decide +kernel
theorem d_Bt_init_19 : decode b_Bt_init 19 = .ok (.dup, 1) := by decide +kernel
theorem d_Bt_init_20 : decode b_Bt_init 20 = .ok (.invokespecial 18, 3) := by decide +kernel
theorem d_Bt_init_23 : decode b_Bt_init 23 = .ok (.putfield 19, 3) := by decide +kernel
theorem d_Bt_init_26 : decode b_Bt_init 26 = .ok (.aload_n 0, 1) := by decide +kernel
theorem d_Bt_init_27 : decode b_Bt_init 27 = .ok (.new 23, 3) := by decide +kernel
theorem d_Bt_init_30 : decode b_Bt_init 30 = .ok (.dup, 1) := by decide +kernel
theorem d_Bt_init_31 : decode b_Bt_init 31 = .ok (.invokespecial 25, 3) := by decide +kernel
theorem d_Bt_init_34 : decode b_Bt_init 34 = .ok (.putfield 26, 3) := by decide +kernel
theorem d_Bt_init_37 : decode b_Bt_init 37 = .ok (.aload_n 0, 1) := by decide +kernel
theorem d_Bt_init_38 : decode b_Bt_init 38 = .ok (.bipush (-3), 2) := by decide +kernel
theorem d_Bt_init_40 : decode b_Bt_init 40 = .ok (.putfield 30, 3) := by decide +kernel
theorem d_Bt_init_43 : decode b_Bt_init 43 = .ok (.aload_n 0, 1) := by decide +kernel
theorem d_Bt_init_44 : decode b_Bt_init 44 = .ok (.bipush 7, 2) := by decide +kernel
theorem d_Bt_init_46 : decode b_Bt_init 46 = .ok (.putfield 34, 3) := by decide +kernel
theorem d_Bt_init_49 : decode b_Bt_init 49 = .ok (.aload_n 0, 1) := by decide +kernel
theorem d_Bt_init_50 : decode b_Bt_init 50 = .ok (.iconst 0, 1) := by decide +kernel
theorem d_Bt_init_51 : decode b_Bt_init 51 = .ok (.putfield 37, 3) := by decide +kernel
theorem d_Bt_init_54 : decode b_Bt_init 54 = .ok (.aload_n 0, 1) := by decide +kernel
theorem d_Bt_init_55 : decode b_Bt_init 55 = .ok (.iconst 0, 1) := by decide +kernel
theorem d_Bt_init_56 : decode b_Bt_init 56 = .ok (.putfield 40, 3) := by decide +kernel
theorem d_Bt_init_59 : decode b_Bt_init 59 = .ok (.return_, 1) := by decide +kernel
theorem d_Bt_bounds_0 : decode b_Bt_bounds 0 = .ok (.iload_n 1, 1) := by decide +kernel
theorem d_Bt_bounds_1 : decode b_Bt_bounds 1 = .ok (.bipush (-30), 2) := by decide +kernel
theorem d_Bt_bounds_3 : decode b_Bt_bounds 3 = .ok (.if_icmp .lt 18, 3) := by decide +kernel
theorem d_Bt_bounds_6 : decode b_Bt_bounds 6 = .ok (.iload_n 1, 1) := by decide +kernel
theorem d_Bt_bounds_7 : decode b_Bt_bounds 7 = .ok (.ifCond .gt 14, 3) := by decide +kernel
theorem d_Bt_bounds_10 : decode b_Bt_bounds 10 = .ok (.iload_n 2, 1) := by decide +kernel
theorem d_Bt_bounds_11 : decode b_Bt_bounds 11 = .ok (.iconst 1, 1) := by decide +kernel
theorem d_Bt_bounds_12 : decode b_Bt_bounds 12 = .ok (.if_icmp .lt 9, 3) := by decide +kernel
theorem d_Bt_bounds_15 : decode b_Bt_bounds 15 = .ok (.iload_n 2, 1) := by decide +kernel
theorem d_Bt_bounds_16 : decode b_Bt_bounds 16 = .ok (.bipush 30, 2) := by decide +kernel
theorem d_Bt_bounds_18 : decode b_Bt_bounds 18 = .ok (.if_icmp .le 5, 3) := by decide +kernel
theorem d_Bt_bounds_21 : decode b_Bt_bounds 21 = .ok (.iconst 0, 1) := by decide +kernel
theorem d_Bt_bounds_22 : decode b_Bt_bounds 22 = .ok (.ireturn, 1) := by decide +kernel
theorem d_Bt_bounds_23 : decode b_Bt_bounds 23 = .ok (.aload_n 0, 1) := by decide +kernel
theorem d_Bt_bounds_24 : decode b_Bt_bounds 24 = .ok (.iload_n 1, 1) := by decide +kernel
theorem d_Bt_bounds_25 : decode b_Bt_bounds 25 = .ok (.putfield 30, 3) := by decide +kernel
theorem d_Bt_bounds_28 : decode b_Bt_bounds 28 = .ok (.aload_n 0, 1) := by decide +kernel
theorem d_Bt_bounds_29 : decode b_Bt_bounds 29 = .ok (.iload_n 2, 1) := by decide +kernel
theorem d_Bt_bounds_30 : decode b_Bt_bounds 30 = .ok (.putfield 34, 3) := by decide +kernel
theorem d_Bt_bounds_33 : decode b_Bt_bounds 33 = .ok (.iconst 1, 1) := by decide +kernel
theorem d_Bt_bounds_34 : decode b_Bt_bounds 34 = .ok (.ireturn, 1) := by decide +kernel
theorem d_Bt_wide_0 : decode b_Bt_wide 0 = .ok (.aload_n 0, 1) := by decide +kernel
theorem d_Bt_wide_1 : decode b_Bt_wide 1 = .ok (.getstatic 44, 3) := by decide +kernel
theorem d_Bt_wide_4 : decode b_Bt_wide 4 = .ok (.lload_n 1, 1) := by decide +kernel
theorem d_Bt_wide_5 : decode b_Bt_wide 5 = .ok (.invokevirtual 50, 3) := by decide +kernel
theorem d_Bt_wide_8 : decode b_Bt_wide 8 = .ok (.ireturn, 1) := by decide +kernel
theorem d_Bt_narrow_0 : decode b_Bt_narrow 0 = .ok (.aload_n 0, 1) := by decide +kernel
theorem d_Bt_narrow_1 : decode b_Bt_narrow 1 = .ok (.getstatic 54, 3) := by decide +kernel
theorem d_Bt_narrow_4 : decode b_Bt_narrow 4 = .ok (.iload_n 1, 1) := by decide +kernel
theorem d_Bt_narrow_5 : decode b_Bt_narrow 5 = .ok (.i2l, 1) := by decide +kernel
theorem d_Bt_narrow_6 : decode b_Bt_narrow 6 = .ok (.invokevirtual 50, 3) := by decide +kernel
theorem d_Bt_narrow_9 : decode b_Bt_narrow 9 = .ok (.ireturn, 1) := by decide +kernel
theorem d_Bt_wideHex_0 : decode b_Bt_wideHex 0 = .ok (.aload_n 0, 1) := by decide +kernel
theorem d_Bt_wideHex_1 : decode b_Bt_wideHex 1 = .ok (.getstatic 44, 3) := by decide +kernel
theorem d_Bt_wideHex_4 : decode b_Bt_wideHex 4 = .ok (.lload_n 1, 1) := by decide +kernel
theorem d_Bt_wideHex_5 : decode b_Bt_wideHex 5 = .ok (.invokevirtual 57, 3) := by decide +kernel
theorem d_Bt_wideHex_8 : decode b_Bt_wideHex 8 = .ok (.ireturn, 1) := by decide +kernel
theorem d_Bt_narrowHex_0 : decode b_Bt_narrowHex 0 = .ok (.aload_n 0, 1) := by decide +kernel
theorem d_Bt_narrowHex_1 : decode b_Bt_narrowHex 1 = .ok (.getstatic 54, 3) := by decide +kernel
theorem d_Bt_narrowHex_4 : decode b_Bt_narrowHex 4 = .ok (.iload_n 1, 1) := by decide +kernel
theorem d_Bt_narrowHex_5 : decode b_Bt_narrowHex 5 = .ok (.i2l, 1) := by decide +kernel
theorem d_Bt_narrowHex_6 : decode b_Bt_narrowHex 6 = .ok (.invokevirtual 57, 3) := by decide +kernel
theorem d_Bt_narrowHex_9 : decode b_Bt_narrowHex 9 = .ok (.ireturn, 1) := by decide +kernel
theorem d_Bt_characterAt_0 : decode b_Bt_characterAt 0 = .ok (.aload_n 0, 1) := by decide +kernel
theorem d_Bt_characterAt_1 : decode b_Bt_characterAt 1 = .ok (.getfield 26, 3) := by decide +kernel
theorem d_Bt_characterAt_4 : decode b_Bt_characterAt 4 = .ok (.iload_n 1, 1) := by decide +kernel
theorem d_Bt_characterAt_5 : decode b_Bt_characterAt 5 = .ok (.invokevirtual 60, 3) := by decide +kernel
theorem d_Bt_characterAt_8 : decode b_Bt_characterAt 8 = .ok (.ireturn, 1) := by decide +kernel
theorem d_Bt_kind_0 : decode b_Bt_kind 0 = .ok (.aload_n 0, 1) := by decide +kernel
theorem d_Bt_kind_1 : decode b_Bt_kind 1 = .ok (.getfield 37, 3) := by decide +kernel
theorem d_Bt_kind_4 : decode b_Bt_kind 4 = .ok (.ireturn, 1) := by decide +kernel
theorem d_Bt_minus_0 : decode b_Bt_minus 0 = .ok (.aload_n 0, 1) := by decide +kernel
theorem d_Bt_minus_1 : decode b_Bt_minus 1 = .ok (.getfield 40, 3) := by decide +kernel
theorem d_Bt_minus_4 : decode b_Bt_minus 4 = .ok (.ireturn, 1) := by decide +kernel
theorem d_Bt_digits_0 : decode b_Bt_digits 0 = .ok (.aload_n 0, 1) := by decide +kernel
theorem d_Bt_digits_1 : decode b_Bt_digits 1 = .ok (.getfield 19, 3) := by decide +kernel
theorem d_Bt_digits_4 : decode b_Bt_digits 4 = .ok (.getfield 64, 3) := by decide +kernel
theorem d_Bt_digits_7 : decode b_Bt_digits 7 = .ok (.lreturn, 1) := by decide +kernel
theorem d_Bt_tens_0 : decode b_Bt_tens 0 = .ok (.aload_n 0, 1) := by decide +kernel
theorem d_Bt_tens_1 : decode b_Bt_tens 1 = .ok (.getfield 19, 3) := by decide +kernel
theorem d_Bt_tens_4 : decode b_Bt_tens 4 = .ok (.getfield 68, 3) := by decide +kernel
theorem d_Bt_tens_7 : decode b_Bt_tens 7 = .ok (.ireturn, 1) := by decide +kernel
theorem d_Bt_printDecimal_0 : decode b_Bt_printDecimal 0 = .ok (.aload_n 0, 1) := by decide +kernel
theorem d_Bt_printDecimal_1 : decode b_Bt_printDecimal 1 = .ok (.aload_n 1, 1) := by decide +kernel
theorem d_Bt_printDecimal_2 : decode b_Bt_printDecimal 2 = .ok (.lload_n 2, 1) := by decide +kernel
theorem d_Bt_printDecimal_3 : decode b_Bt_printDecimal 3 = .ok (.invokevirtual 71, 3) := by decide +kernel
theorem d_Bt_printDecimal_6 : decode b_Bt_printDecimal 6 = .ok (.aload_n 0, 1) := by decide +kernel
theorem d_Bt_printDecimal_7 : decode b_Bt_printDecimal 7 = .ok (.getfield 37, 3) := by decide +kernel
theorem d_Bt_printDecimal_10 : decode b_Bt_printDecimal 10 = .ok (.iconst 4, 1) := by decide +kernel
theorem d_Bt_printDecimal_11 : decode b_Bt_printDecimal 11 = .ok (.if_icmp .ne 10, 3) := by decide +kernel
theorem d_Bt_printDecimal_14 : decode b_Bt_printDecimal 14 = .ok (.aload_n 0, 1) := by decide +kernel
theorem d_Bt_printDecimal_15 : decode b_Bt_printDecimal 15 = .ok (.invokevirtual 75, 3) := by decide +kernel
theorem d_Bt_printDecimal_18 : decode b_Bt_printDecimal 18 = .ok (.goto 9, 3) := by decide +kernel
theorem d_Bt_printDecimal_21 : decode b_Bt_printDecimal 21 = .ok (.aload_n 0, 1) := by decide +kernel
theorem d_Bt_printDecimal_22 : decode b_Bt_printDecimal 22 = .ok (.ldc 78, 2) := by decide +kernel
theorem d_Bt_printDecimal_24 : decode b_Bt_printDecimal 24 = .ok (.invokevirtual 80, 3) := by decide +kernel
theorem d_Bt_printDecimal_27 : decode b_Bt_printDecimal 27 = .ok (.aload_n 0, 1) := by decide +kernel
theorem d_Bt_printDecimal_28 : decode b_Bt_printDecimal 28 = .ok (.getfield 26, 3) := by decide +kernel
theorem d_Bt_printDecimal_31 : decode b_Bt_printDecimal 31 = .ok (.getfield 84, 3) := by decide +kernel
theorem d_Bt_printDecimal_34 : decode b_Bt_printDecimal 34 = .ok (.ireturn, 1) := by decide +kernel
theorem d_Bt_printHex_0 : decode b_Bt_printHex 0 = .ok (.aload_n 0, 1) := by decide +kernel
theorem d_Bt_printHex_1 : decode b_Bt_printHex 1 = .ok (.aload_n 1, 1) := by decide +kernel
theorem d_Bt_printHex_2 : decode b_Bt_printHex 2 = .ok (.lload_n 2, 1) := by decide +kernel
theorem d_Bt_printHex_3 : decode b_Bt_printHex 3 = .ok (.invokevirtual 71, 3) := by decide +kernel
theorem d_Bt_printHex_6 : decode b_Bt_printHex 6 = .ok (.aload_n 0, 1) := by decide +kernel
theorem d_Bt_printHex_7 : decode b_Bt_printHex 7 = .ok (.getfield 37, 3) := by decide +kernel
theorem d_Bt_printHex_10 : decode b_Bt_printHex 10 = .ok (.iconst 4, 1) := by decide +kernel
theorem d_Bt_printHex_11 : decode b_Bt_printHex 11 = .ok (.if_icmp .ne 12, 3) := by decide +kernel
theorem d_Bt_printHex_14 : decode b_Bt_printHex 14 = .ok (.aload_n 0, 1) := by decide +kernel
theorem d_Bt_printHex_15 : decode b_Bt_printHex 15 = .ok (.aload_n 1, 1) := by decide +kernel
theorem d_Bt_printHex_16 : decode b_Bt_printHex 16 = .ok (.lload_n 2, 1) := by decide +kernel
theorem d_Bt_printHex_17 : decode b_Bt_printHex 17 = .ok (.invokevirtual 87, 3) := by decide +kernel
theorem d_Bt_printHex_20 : decode b_Bt_printHex 20 = .ok (.goto 9, 3) := by decide +kernel
theorem d_Bt_printHex_23 : decode b_Bt_printHex 23 = .ok (.aload_n 0, 1) := by decide +kernel
theorem d_Bt_printHex_24 : decode b_Bt_printHex 24 = .ok (.ldc 90, 2) := by decide +kernel
theorem d_Bt_printHex_26 : decode b_Bt_printHex 26 = .ok (.invokevirtual 80, 3) := by decide +kernel
theorem d_Bt_printHex_29 : decode b_Bt_printHex 29 = .ok (.aload_n 0, 1) := by decide +kernel
theorem d_Bt_printHex_30 : decode b_Bt_printHex 30 = .ok (.getfield 26, 3) := by decide +kernel
theorem d_Bt_printHex_33 : decode b_Bt_printHex 33 = .ok (.getfield 84, 3) := by decide +kernel
theorem d_Bt_printHex_36 : decode b_Bt_printHex 36 = .ok (.ireturn, 1) := by decide +kernel
theorem d_Bt_take_0 : decode b_Bt_take 0 = .ok (.aload_n 1, 1) := by decide +kernel
theorem d_Bt_take_1 : decode b_Bt_take 1 = .ok (.lload_n 2, 1) := by decide +kernel
theorem d_Bt_take_2 : decode b_Bt_take 2 = .ok (.invokevirtual 92, 3) := by decide +kernel
theorem d_Bt_take_5 : decode b_Bt_take 5 = .ok (.istore 4, 2) := by decide +kernel
theorem d_Bt_take_7 : decode b_Bt_take 7 = .ok (.aload_n 1, 1) := by decide +kernel
theorem d_Bt_take_8 : decode b_Bt_take 8 = .ok (.lload_n 2, 1) := by decide +kernel
theorem d_Bt_take_9 : decode b_Bt_take 9 = .ok (.invokevirtual 96, 3) := by decide +kernel
theorem d_Bt_take_12 : decode b_Bt_take 12 = .ok (.lstore 5, 2) := by decide +kernel
theorem d_Bt_take_14 : decode b_Bt_take 14 = .ok (.aload_n 0, 1) := by decide +kernel
theorem d_Bt_take_15 : decode b_Bt_take 15 = .ok (.aload_n 1, 1) := by decide +kernel
theorem d_Bt_take_16 : decode b_Bt_take 16 = .ok (.iload 4, 2) := by decide +kernel
theorem d_Bt_take_18 : decode b_Bt_take 18 = .ok (.lload 5, 2) := by decide +kernel
theorem d_Bt_take_20 : decode b_Bt_take 20 = .ok (.invokestatic 100, 3) := by decide +kernel
theorem d_Bt_take_23 : decode b_Bt_take 23 = .ok (.putfield 37, 3) := by decide +kernel
theorem d_Bt_take_26 : decode b_Bt_take 26 = .ok (.aload_n 0, 1) := by decide +kernel
theorem d_Bt_take_27 : decode b_Bt_take 27 = .ok (.aload_n 1, 1) := by decide +kernel
theorem d_Bt_take_28 : decode b_Bt_take 28 = .ok (.lload_n 2, 1) := by decide +kernel
theorem d_Bt_take_29 : decode b_Bt_take 29 = .ok (.invokevirtual 104, 3) := by decide +kernel
theorem d_Bt_take_32 : decode b_Bt_take 32 = .ok (.putfield 40, 3) := by decide +kernel
theorem d_Bt_take_35 : decode b_Bt_take 35 = .ok (.aload_n 0, 1) := by decide +kernel
theorem d_Bt_take_36 : decode b_Bt_take 36 = .ok (.getfield 37, 3) := by decide +kernel
theorem d_Bt_take_39 : decode b_Bt_take 39 = .ok (.iconst 4, 1) := by decide +kernel
theorem d_Bt_take_40 : decode b_Bt_take 40 = .ok (.if_icmp .ne 66, 3) := by decide +kernel
theorem d_Bt_take_43 : decode b_Bt_take 43 = .ok (.iload 4, 2) := by decide +kernel
theorem d_Bt_take_45 : decode b_Bt_take 45 = .ok (.ifCond .ne 8, 3) := by decide +kernel
theorem d_Bt_take_48 : decode b_Bt_take 48 = .ok (.lload 5, 2) := by decide +kernel
theorem d_Bt_take_50 : decode b_Bt_take 50 = .ok (.goto 10, 3) := by decide +kernel
theorem d_Bt_take_53 : decode b_Bt_take 53 = .ok (.lload 5, 2) := by decide +kernel
theorem d_Bt_take_55 : decode b_Bt_take 55 = .ok (.aload_n 1, 1) := by decide +kernel
theorem d_Bt_take_56 : decode b_Bt_take 56 = .ok (.invokevirtual 108, 3) := by decide +kernel
theorem d_Bt_take_59 : decode b_Bt_take 59 = .ok (.ladd, 1) := by decide +kernel
theorem d_Bt_take_60 : decode b_Bt_take 60 = .ok (.lstore 7, 2) := by decide +kernel
theorem d_Bt_take_62 : decode b_Bt_take 62 = .ok (.lload 5, 2) := by decide +kernel
theorem d_Bt_take_64 : decode b_Bt_take 64 = .ok (.lconst 0, 1) := by decide +kernel
theorem d_Bt_take_65 : decode b_Bt_take 65 = .ok (.lcmp, 1) := by decide +kernel
theorem d_Bt_take_66 : decode b_Bt_take 66 = .ok (.ifCond .ne 13, 3) := by decide +kernel
theorem d_Bt_take_69 : decode b_Bt_take 69 = .ok (.iload 4, 2) := by decide +kernel
theorem d_Bt_take_71 : decode b_Bt_take 71 = .ok (.iconst 1, 1) := by decide +kernel
theorem d_Bt_take_72 : decode b_Bt_take 72 = .ok (.if_icmp .le 7, 3) := by decide +kernel
theorem d_Bt_take_75 : decode b_Bt_take 75 = .ok (.iconst 1, 1) := by decide +kernel
theorem d_Bt_take_76 : decode b_Bt_take 76 = .ok (.goto 4, 3) := by decide +kernel
theorem d_Bt_take_79 : decode b_Bt_take 79 = .ok (.iconst 0, 1) := by decide +kernel
theorem d_Bt_take_80 : decode b_Bt_take 80 = .ok (.istore 9, 2) := by decide +kernel
theorem d_Bt_take_82 : decode b_Bt_take 82 = .ok (.aload_n 0, 1) := by decide +kernel
theorem d_Bt_take_83 : decode b_Bt_take 83 = .ok (.getfield 10, 3) := by decide +kernel
theorem d_Bt_take_86 : decode b_Bt_take 86 = .ok (.lload 7, 2) := by decide +kernel
theorem d_Bt_take_88 : decode b_Bt_take 88 = .ok (.aload_n 1, 1) := by decide +kernel
theorem d_Bt_take_89 : decode b_Bt_take 89 = .ok (.iload 4, 2) := by decide +kernel
theorem d_Bt_take_91 : decode b_Bt_take 91 = .ok (.invokevirtual 112, 3) := by decide +kernel
theorem d_Bt_take_94 : decode b_Bt_take 94 = .ok (.iload 9, 2) := by decide +kernel
theorem d_Bt_take_96 : decode b_Bt_take 96 = .ok (.aload_n 0, 1) := by decide +kernel
theorem d_Bt_take_97 : decode b_Bt_take 97 = .ok (.getfield 19, 3) := by decide +kernel
theorem d_Bt_take_100 : decode b_Bt_take 100 = .ok (.invokevirtual 115, 3) := by decide +kernel
theorem d_Bt_take_103 : decode b_Bt_take 103 = .ok (.goto 10, 3) := by decide +kernel
theorem d_Bt_take_106 : decode b_Bt_take 106 = .ok (.aload_n 0, 1) := by decide +kernel
theorem d_Bt_take_107 : decode b_Bt_take 107 = .ok (.getfield 19, 3) := by decide +kernel
theorem d_Bt_take_110 : decode b_Bt_take 110 = .ok (.invokevirtual 119, 3) := by decide +kernel
theorem d_Bt_take_113 : decode b_Bt_take 113 = .ok (.aload_n 0, 1) := by decide +kernel
theorem d_Bt_take_114 : decode b_Bt_take 114 = .ok (.getfield 26, 3) := by decide +kernel
theorem d_Bt_take_117 : decode b_Bt_take 117 = .ok (.invokevirtual 122, 3) := by decide +kernel
theorem d_Bt_take_120 : decode b_Bt_take 120 = .ok (.aload_n 0, 1) := by decide +kernel
theorem d_Bt_take_121 : decode b_Bt_take 121 = .ok (.getfield 40, 3) := by decide +kernel
theorem d_Bt_take_124 : decode b_Bt_take 124 = .ok (.ifCond .eq 20, 3) := by decide +kernel
theorem d_Bt_take_127 : decode b_Bt_take 127 = .ok (.aload_n 0, 1) := by decide +kernel
theorem d_Bt_take_128 : decode b_Bt_take 128 = .ok (.getfield 37, 3) := by decide +kernel
theorem d_Bt_take_131 : decode b_Bt_take 131 = .ok (.iconst 1, 1) := by decide +kernel
theorem d_Bt_take_132 : decode b_Bt_take 132 = .ok (.if_icmp .eq 12, 3) := by decide +kernel
theorem d_Bt_take_135 : decode b_Bt_take 135 = .ok (.aload_n 0, 1) := by decide +kernel
theorem d_Bt_take_136 : decode b_Bt_take 136 = .ok (.getfield 26, 3) := by decide +kernel
theorem d_Bt_take_139 : decode b_Bt_take 139 = .ok (.bipush 45, 2) := by decide +kernel
theorem d_Bt_take_141 : decode b_Bt_take 141 = .ok (.invokevirtual 123, 3) := by decide +kernel
theorem d_Bt_take_144 : decode b_Bt_take 144 = .ok (.return_, 1) := by decide +kernel
theorem d_Bt_kindOf_0 : decode b_Bt_kindOf 0 = .ok (.iload_n 1, 1) := by decide +kernel
theorem d_Bt_kindOf_1 : decode b_Bt_kindOf 1 = .ok (.aload_n 0, 1) := by decide +kernel
theorem d_Bt_kindOf_2 : decode b_Bt_kindOf 2 = .ok (.getfield 127, 3) := by decide +kernel
theorem d_Bt_kindOf_5 : decode b_Bt_kindOf 5 = .ok (.if_icmp .ne 15, 3) := by decide +kernel
theorem d_Bt_kindOf_8 : decode b_Bt_kindOf 8 = .ok (.lload_n 2, 1) := by decide +kernel
theorem d_Bt_kindOf_9 : decode b_Bt_kindOf 9 = .ok (.lconst 0, 1) := by decide +kernel
theorem d_Bt_kindOf_10 : decode b_Bt_kindOf 10 = .ok (.lcmp, 1) := by decide +kernel
theorem d_Bt_kindOf_11 : decode b_Bt_kindOf 11 = .ok (.ifCond .ne 7, 3) := by decide +kernel
theorem d_Bt_kindOf_14 : decode b_Bt_kindOf 14 = .ok (.iconst 2, 1) := by decide +kernel
theorem d_Bt_kindOf_15 : decode b_Bt_kindOf 15 = .ok (.goto 4, 3) := by decide +kernel
theorem d_Bt_kindOf_18 : decode b_Bt_kindOf 18 = .ok (.iconst 1, 1) := by decide +kernel
theorem d_Bt_kindOf_19 : decode b_Bt_kindOf 19 = .ok (.ireturn, 1) := by decide +kernel
theorem d_Bt_kindOf_20 : decode b_Bt_kindOf 20 = .ok (.iload_n 1, 1) := by decide +kernel
theorem d_Bt_kindOf_21 : decode b_Bt_kindOf 21 = .ok (.ifCond .ne 13, 3) := by decide +kernel
theorem d_Bt_kindOf_24 : decode b_Bt_kindOf 24 = .ok (.lload_n 2, 1) := by decide +kernel
theorem d_Bt_kindOf_25 : decode b_Bt_kindOf 25 = .ok (.lconst 0, 1) := by decide +kernel
theorem d_Bt_kindOf_26 : decode b_Bt_kindOf 26 = .ok (.lcmp, 1) := by decide +kernel
theorem d_Bt_kindOf_27 : decode b_Bt_kindOf 27 = .ok (.ifCond .ne 7, 3) := by decide +kernel
theorem d_Bt_kindOf_30 : decode b_Bt_kindOf 30 = .ok (.iconst 3, 1) := by decide +kernel
theorem d_Bt_kindOf_31 : decode b_Bt_kindOf 31 = .ok (.goto 4, 3) := by decide +kernel
theorem d_Bt_kindOf_34 : decode b_Bt_kindOf 34 = .ok (.iconst 4, 1) := by decide +kernel
theorem d_Bt_kindOf_35 : decode b_Bt_kindOf 35 = .ok (.ireturn, 1) := by decide +kernel
theorem d_Bt_putNamed_0 : decode b_Bt_putNamed 0 = .ok (.aload_n 0, 1) := by decide +kernel
theorem d_Bt_putNamed_1 : decode b_Bt_putNamed 1 = .ok (.getfield 37, 3) := by decide +kernel
theorem d_Bt_putNamed_4 : decode b_Bt_putNamed 4 = .ok (.iconst 1, 1) := by decide +kernel
theorem d_Bt_putNamed_5 : decode b_Bt_putNamed 5 = .ok (.if_icmp .ne 15, 3) := by decide +kernel
theorem d_Bt_putNamed_8 : decode b_Bt_putNamed 8 = .ok (.aload_n 0, 1) := by decide +kernel
theorem d_Bt_putNamed_9 : decode b_Bt_putNamed 9 = .ok (.getfield 26, 3) := by decide +kernel
theorem d_Bt_putNamed_12 : decode b_Bt_putNamed 12 = .ok (.ldc 130, 2) := by decide +kernel
theorem d_Bt_putNamed_14 : decode b_Bt_putNamed 14 = .ok (.invokevirtual 132, 3) := by decide +kernel
theorem d_Bt_putNamed_17 : decode b_Bt_putNamed 17 = .ok (.goto 31, 3) := by decide +kernel
theorem d_Bt_putNamed_20 : decode b_Bt_putNamed 20 = .ok (.aload_n 0, 1) := by decide +kernel
theorem d_Bt_putNamed_21 : decode b_Bt_putNamed 21 = .ok (.getfield 37, 3) := by decide +kernel
theorem d_Bt_putNamed_24 : decode b_Bt_putNamed 24 = .ok (.iconst 2, 1) := by decide +kernel
theorem d_Bt_putNamed_25 : decode b_Bt_putNamed 25 = .ok (.if_icmp .ne 15, 3) := by decide +kernel
theorem d_Bt_putNamed_28 : decode b_Bt_putNamed 28 = .ok (.aload_n 0, 1) := by decide +kernel
theorem d_Bt_putNamed_29 : decode b_Bt_putNamed 29 = .ok (.getfield 26, 3) := by decide +kernel
theorem d_Bt_putNamed_32 : decode b_Bt_putNamed 32 = .ok (.ldc 135, 2) := by decide +kernel
theorem d_Bt_putNamed_34 : decode b_Bt_putNamed 34 = .ok (.invokevirtual 132, 3) := by decide +kernel
theorem d_Bt_putNamed_37 : decode b_Bt_putNamed 37 = .ok (.goto 11, 3) := by decide +kernel
theorem d_Bt_putNamed_40 : decode b_Bt_putNamed 40 = .ok (.aload_n 0, 1) := by decide +kernel
theorem d_Bt_putNamed_41 : decode b_Bt_putNamed 41 = .ok (.getfield 26, 3) := by decide +kernel
theorem d_Bt_putNamed_44 : decode b_Bt_putNamed 44 = .ok (.aload_n 1, 1) := by decide +kernel
theorem d_Bt_putNamed_45 : decode b_Bt_putNamed 45 = .ok (.invokevirtual 132, 3) := by decide +kernel
theorem d_Bt_putNamed_48 : decode b_Bt_putNamed 48 = .ok (.return_, 1) := by decide +kernel
theorem d_Bt_putDecimal_0 : decode b_Bt_putDecimal 0 = .ok (.aload_n 0, 1) := by decide +kernel
theorem d_Bt_putDecimal_1 : decode b_Bt_putDecimal 1 = .ok (.getfield 19, 3) := by decide +kernel
theorem d_Bt_putDecimal_4 : decode b_Bt_putDecimal 4 = .ok (.invokevirtual 137, 3) := by decide +kernel
theorem d_Bt_putDecimal_7 : decode b_Bt_putDecimal 7 = .ok (.istore_n 1, 1) := by decide +kernel
theorem d_Bt_putDecimal_8 : decode b_Bt_putDecimal 8 = .ok (.iload_n 1, 1) := by decide +kernel
theorem d_Bt_putDecimal_9 : decode b_Bt_putDecimal 9 = .ok (.aload_n 0, 1) := by decide +kernel
theorem d_Bt_putDecimal_10 : decode b_Bt_putDecimal 10 = .ok (.getfield 30, 3) := by decide +kernel
theorem d_Bt_putDecimal_13 : decode b_Bt_putDecimal 13 = .ok (.if_icmp .lt 49, 3) := by decide +kernel
theorem d_Bt_putDecimal_16 : decode b_Bt_putDecimal 16 = .ok (.iload_n 1, 1) := by decide +kernel
theorem d_Bt_putDecimal_17 : decode b_Bt_putDecimal 17 = .ok (.aload_n 0, 1) := by decide +kernel
theorem d_Bt_putDecimal_18 : decode b_Bt_putDecimal 18 = .ok (.getfield 34, 3) := by decide +kernel
theorem d_Bt_putDecimal_21 : decode b_Bt_putDecimal 21 = .ok (.if_icmp .ge 41, 3) := by decide +kernel
theorem d_Bt_putDecimal_24 : decode b_Bt_putDecimal 24 = .ok (.aload_n 0, 1) := by decide +kernel
theorem d_Bt_putDecimal_25 : decode b_Bt_putDecimal 25 = .ok (.iload_n 1, 1) := by decide +kernel
theorem d_Bt_putDecimal_26 : decode b_Bt_putDecimal 26 = .ok (.iconst 0, 1) := by decide +kernel
theorem d_Bt_putDecimal_27 : decode b_Bt_putDecimal 27 = .ok (.invokestatic 141, 3) := by decide +kernel
theorem d_Bt_putDecimal_30 : decode b_Bt_putDecimal 30 = .ok (.iconst 0, 1) := by decide +kernel
theorem d_Bt_putDecimal_31 : decode b_Bt_putDecimal 31 = .ok (.invokevirtual 147, 3) := by decide +kernel
theorem d_Bt_putDecimal_34 : decode b_Bt_putDecimal 34 = .ok (.aload_n 0, 1) := by decide +kernel
theorem d_Bt_putDecimal_35 : decode b_Bt_putDecimal 35 = .ok (.getfield 26, 3) := by decide +kernel
theorem d_Bt_putDecimal_38 : decode b_Bt_putDecimal 38 = .ok (.bipush 46, 2) := by decide +kernel
theorem d_Bt_putDecimal_40 : decode b_Bt_putDecimal 40 = .ok (.invokevirtual 123, 3) := by decide +kernel
theorem d_Bt_putDecimal_43 : decode b_Bt_putDecimal 43 = .ok (.aload_n 0, 1) := by decide +kernel
theorem d_Bt_putDecimal_44 : decode b_Bt_putDecimal 44 = .ok (.iconst (-1), 1) := by decide +kernel
theorem d_Bt_putDecimal_45 : decode b_Bt_putDecimal 45 = .ok (.aload_n 0, 1) := by decide +kernel
theorem d_Bt_putDecimal_46 : decode b_Bt_putDecimal 46 = .ok (.getfield 19, 3) := by decide +kernel
theorem d_Bt_putDecimal_49 : decode b_Bt_putDecimal 49 = .ok (.getfield 68, 3) := by decide +kernel
theorem d_Bt_putDecimal_52 : decode b_Bt_putDecimal 52 = .ok (.iconst (-1), 1) := by decide +kernel
theorem d_Bt_putDecimal_53 : decode b_Bt_putDecimal 53 = .ok (.invokestatic 151, 3) := by decide +kernel
theorem d_Bt_putDecimal_56 : decode b_Bt_putDecimal 56 = .ok (.invokevirtual 147, 3) := by decide +kernel
theorem d_Bt_putDecimal_59 : decode b_Bt_putDecimal 59 = .ok (.goto 55, 3) := by decide +kernel
theorem d_Bt_putDecimal_62 : decode b_Bt_putDecimal 62 = .ok (.aload_n 0, 1) := by decide +kernel
theorem d_Bt_putDecimal_63 : decode b_Bt_putDecimal 63 = .ok (.iload_n 1, 1) := by decide +kernel
theorem d_Bt_putDecimal_64 : decode b_Bt_putDecimal 64 = .ok (.iload_n 1, 1) := by decide +kernel
theorem d_Bt_putDecimal_65 : decode b_Bt_putDecimal 65 = .ok (.invokevirtual 147, 3) := by decide +kernel
theorem d_Bt_putDecimal_68 : decode b_Bt_putDecimal 68 = .ok (.aload_n 0, 1) := by decide +kernel
theorem d_Bt_putDecimal_69 : decode b_Bt_putDecimal 69 = .ok (.getfield 26, 3) := by decide +kernel
theorem d_Bt_putDecimal_72 : decode b_Bt_putDecimal 72 = .ok (.bipush 46, 2) := by decide +kernel
theorem d_Bt_putDecimal_74 : decode b_Bt_putDecimal 74 = .ok (.invokevirtual 123, 3) := by decide +kernel
theorem d_Bt_putDecimal_77 : decode b_Bt_putDecimal 77 = .ok (.aload_n 0, 1) := by decide +kernel
theorem d_Bt_putDecimal_78 : decode b_Bt_putDecimal 78 = .ok (.iload_n 1, 1) := by decide +kernel
theorem d_Bt_putDecimal_79 : decode b_Bt_putDecimal 79 = .ok (.iconst 1, 1) := by decide +kernel
theorem d_Bt_putDecimal_80 : decode b_Bt_putDecimal 80 = .ok (.isub, 1) := by decide +kernel
theorem d_Bt_putDecimal_81 : decode b_Bt_putDecimal 81 = .ok (.aload_n 0, 1) := by decide +kernel
theorem d_Bt_putDecimal_82 : decode b_Bt_putDecimal 82 = .ok (.getfield 19, 3) := by decide +kernel
theorem d_Bt_putDecimal_85 : decode b_Bt_putDecimal 85 = .ok (.getfield 68, 3) := by decide +kernel
theorem d_Bt_putDecimal_88 : decode b_Bt_putDecimal 88 = .ok (.iload_n 1, 1) := by decide +kernel
theorem d_Bt_putDecimal_89 : decode b_Bt_putDecimal 89 = .ok (.iconst 1, 1) := by decide +kernel
theorem d_Bt_putDecimal_90 : decode b_Bt_putDecimal 90 = .ok (.isub, 1) := by decide +kernel
theorem d_Bt_putDecimal_91 : decode b_Bt_putDecimal 91 = .ok (.invokestatic 151, 3) := by decide +kernel
theorem d_Bt_putDecimal_94 : decode b_Bt_putDecimal 94 = .ok (.invokevirtual 147, 3) := by decide +kernel
theorem d_Bt_putDecimal_97 : decode b_Bt_putDecimal 97 = .ok (.aload_n 0, 1) := by decide +kernel
theorem d_Bt_putDecimal_98 : decode b_Bt_putDecimal 98 = .ok (.getfield 26, 3) := by decide +kernel
theorem d_Bt_putDecimal_101 : decode b_Bt_putDecimal 101 = .ok (.bipush 69, 2) := by decide +kernel
theorem d_Bt_putDecimal_103 : decode b_Bt_putDecimal 103 = .ok (.invokevirtual 123, 3) := by decide +kernel
theorem d_Bt_putDecimal_106 : decode b_Bt_putDecimal 106 = .ok (.aload_n 0, 1) := by decide +kernel
theorem d_Bt_putDecimal_107 : decode b_Bt_putDecimal 107 = .ok (.getfield 26, 3) := by decide +kernel
theorem d_Bt_putDecimal_110 : decode b_Bt_putDecimal 110 = .ok (.iload_n 1, 1) := by decide +kernel
theorem d_Bt_putDecimal_111 : decode b_Bt_putDecimal 111 = .ok (.invokevirtual 154, 3) := by decide +kernel
theorem d_Bt_putDecimal_114 : decode b_Bt_putDecimal 114 = .ok (.return_, 1) := by decide +kernel
theorem d_Bt_putPlaces_0 : decode b_Bt_putPlaces 0 = .ok (.iload_n 1, 1) := by decide +kernel
theorem d_Bt_putPlaces_1 : decode b_Bt_putPlaces 1 = .ok (.istore_n 3, 1) := by decide +kernel
theorem d_Bt_putPlaces_2 : decode b_Bt_putPlaces 2 = .ok (.iload_n 3, 1) := by decide +kernel
theorem d_Bt_putPlaces_3 : decode b_Bt_putPlaces 3 = .ok (.iload_n 2, 1) := by decide +kernel
theorem d_Bt_putPlaces_4 : decode b_Bt_putPlaces 4 = .ok (.if_icmp .lt 24, 3) := by decide +kernel
theorem d_Bt_putPlaces_7 : decode b_Bt_putPlaces 7 = .ok (.aload_n 0, 1) := by decide +kernel
theorem d_Bt_putPlaces_8 : decode b_Bt_putPlaces 8 = .ok (.getfield 26, 3) := by decide +kernel
theorem d_Bt_putPlaces_11 : decode b_Bt_putPlaces 11 = .ok (.aload_n 0, 1) := by decide +kernel
theorem d_Bt_putPlaces_12 : decode b_Bt_putPlaces 12 = .ok (.getfield 19, 3) := by decide +kernel
theorem d_Bt_putPlaces_15 : decode b_Bt_putPlaces 15 = .ok (.iload_n 3, 1) := by decide +kernel
theorem d_Bt_putPlaces_16 : decode b_Bt_putPlaces 16 = .ok (.invokevirtual 158, 3) := by decide +kernel
theorem d_Bt_putPlaces_19 : decode b_Bt_putPlaces 19 = .ok (.invokevirtual 123, 3) := by decide +kernel
theorem d_Bt_putPlaces_22 : decode b_Bt_putPlaces 22 = .ok (.iinc 3 (-1), 3) := by decide +kernel
theorem d_Bt_putPlaces_25 : decode b_Bt_putPlaces 25 = .ok (.goto (-23), 3) := by decide +kernel
theorem d_Bt_putPlaces_28 : decode b_Bt_putPlaces 28 = .ok (.return_, 1) := by decide +kernel
theorem d_Bt_putHex_0 : decode b_Bt_putHex 0 = .ok (.aload_n 1, 1) := by decide +kernel
theorem d_Bt_putHex_1 : decode b_Bt_putHex 1 = .ok (.lload_n 2, 1) := by decide +kernel
theorem d_Bt_putHex_2 : decode b_Bt_putHex 2 = .ok (.invokevirtual 92, 3) := by decide +kernel
theorem d_Bt_putHex_5 : decode b_Bt_putHex 5 = .ok (.istore 4, 2) := by decide +kernel
theorem d_Bt_putHex_7 : decode b_Bt_putHex 7 = .ok (.aload_n 0, 1) := by decide +kernel
theorem d_Bt_putHex_8 : decode b_Bt_putHex 8 = .ok (.getfield 26, 3) := by decide +kernel
theorem d_Bt_putHex_11 : decode b_Bt_putHex 11 = .ok (.iload 4, 2) := by decide +kernel
theorem d_Bt_putHex_13 : decode b_Bt_putHex 13 = .ok (.ifCond .ne 8, 3) := by decide +kernel
theorem d_Bt_putHex_16 : decode b_Bt_putHex 16 = .ok (.ldc 162, 2) := by decide +kernel
theorem d_Bt_putHex_18 : decode b_Bt_putHex 18 = .ok (.goto 5, 3) := by decide +kernel
theorem d_Bt_putHex_21 : decode b_Bt_putHex 21 = .ok (.ldc 164, 2) := by decide +kernel
theorem d_Bt_putHex_23 : decode b_Bt_putHex 23 = .ok (.invokevirtual 132, 3) := by decide +kernel
theorem d_Bt_putHex_26 : decode b_Bt_putHex 26 = .ok (.aload_n 0, 1) := by decide +kernel
theorem d_Bt_putHex_27 : decode b_Bt_putHex 27 = .ok (.getfield 26, 3) := by decide +kernel
theorem d_Bt_putHex_30 : decode b_Bt_putHex 30 = .ok (.aload_n 1, 1) := by decide +kernel
theorem d_Bt_putHex_31 : decode b_Bt_putHex 31 = .ok (.lload_n 2, 1) := by decide +kernel
theorem d_Bt_putHex_32 : decode b_Bt_putHex 32 = .ok (.invokevirtual 166, 3) := by decide +kernel
theorem d_Bt_putHex_35 : decode b_Bt_putHex 35 = .ok (.aload_n 1, 1) := by decide +kernel
theorem d_Bt_putHex_36 : decode b_Bt_putHex 36 = .ok (.getfield 169, 3) := by decide +kernel
theorem d_Bt_putHex_39 : decode b_Bt_putHex 39 = .ok (.invokevirtual 172, 3) := by decide +kernel
theorem d_Bt_putHex_42 : decode b_Bt_putHex 42 = .ok (.aload_n 0, 1) := by decide +kernel
theorem d_Bt_putHex_43 : decode b_Bt_putHex 43 = .ok (.getfield 26, 3) := by decide +kernel
theorem d_Bt_putHex_46 : decode b_Bt_putHex 46 = .ok (.bipush 112, 2) := by decide +kernel
theorem d_Bt_putHex_48 : decode b_Bt_putHex 48 = .ok (.invokevirtual 123, 3) := by decide +kernel
theorem d_Bt_putHex_51 : decode b_Bt_putHex 51 = .ok (.aload_n 0, 1) := by decide +kernel
theorem d_Bt_putHex_52 : decode b_Bt_putHex 52 = .ok (.getfield 26, 3) := by decide +kernel
theorem d_Bt_putHex_55 : decode b_Bt_putHex 55 = .ok (.aload_n 1, 1) := by decide +kernel
theorem d_Bt_putHex_56 : decode b_Bt_putHex 56 = .ok (.iload 4, 2) := by decide +kernel
theorem d_Bt_putHex_58 : decode b_Bt_putHex 58 = .ok (.invokevirtual 176, 3) := by decide +kernel
theorem d_Bt_putHex_61 : decode b_Bt_putHex 61 = .ok (.invokevirtual 154, 3) := by decide +kernel
theorem d_Bt_putHex_64 : decode b_Bt_putHex 64 = .ok (.return_, 1) := by decide +kernel
theorem d_De_init_0 : decode b_De_init 0 = .ok (.aload_n 0, 1) := by decide +kernel
theorem d_De_init_1 : decode b_De_init 1 = .ok (.invokespecial 1, 3) := by decide +kernel
theorem d_De_init_4 : decode b_De_init 4 = .ok (.aload_n 0, 1) := by decide +kernel
theorem d_De_init_5 : decode b_De_init 5 = .ok (.bipush 19, 2) := by decide +kernel
theorem d_De_init_7 : decode b_De_init 7 = .ok (.newarray .char, 2) := by decide +kernel
theorem d_De_init_9 : decode b_De_init 9 = .ok (.putfield 9, 3) := by decide +kernel
theorem d_De_init_12 : decode b_De_init 12 = .ok (.aload_n 0, 1) := by decide +kernel
theorem d_De_init_13 : decode b_De_init 13 = .ok (.iconst 0, 1) := by decide +kernel
theorem d_De_init_14 : decode b_De_init 14 = .ok (.putfield 13, 3) := by decide +kernel
theorem d_De_init_17 : decode b_De_init 17 = .ok (.aload_n 0, 1) := by decide +kernel
theorem d_De_init_18 : decode b_De_init 18 = .ok (.lconst 0, 1) := by decide +kernel
theorem d_De_init_19 : decode b_De_init 19 = .ok (.putfield 17, 3) := by decide +kernel
theorem d_De_init_22 : decode b_De_init 22 = .ok (.aload_n 0, 1) := by decide +kernel
theorem d_De_init_23 : decode b_De_init 23 = .ok (.iconst 0, 1) := by decide +kernel
theorem d_De_init_24 : decode b_De_init 24 = .ok (.putfield 21, 3) := by decide +kernel
theorem d_De_init_27 : decode b_De_init 27 = .ok (.return_, 1) := by decide +kernel
theorem d_De_clear_0 : decode b_De_clear 0 = .ok (.aload_n 0, 1) := by decide +kernel
theorem d_De_clear_1 : decode b_De_clear 1 = .ok (.iconst 0, 1) := by decide +kernel
theorem d_De_clear_2 : decode b_De_clear 2 = .ok (.putfield 13, 3) := by decide +kernel
theorem d_De_clear_5 : decode b_De_clear 5 = .ok (.aload_n 0, 1) := by decide +kernel
theorem d_De_clear_6 : decode b_De_clear 6 = .ok (.lconst 0, 1) := by decide +kernel
theorem d_De_clear_7 : decode b_De_clear 7 = .ok (.putfield 17, 3) := by decide +kernel
theorem d_De_clear_10 : decode b_De_clear 10 = .ok (.aload_n 0, 1) := by decide +kernel
theorem d_De_clear_11 : decode b_De_clear 11 = .ok (.iconst 0, 1) := by decide +kernel
theorem d_De_clear_12 : decode b_De_clear 12 = .ok (.putfield 21, 3) := by decide +kernel
theorem d_De_clear_15 : decode b_De_clear 15 = .ok (.return_, 1) := by decide +kernel
theorem d_De_become_0 : decode b_De_become 0 = .ok (.aload_n 0, 1) := by decide +kernel
theorem d_De_become_1 : decode b_De_become 1 = .ok (.lload_n 1, 1) := by decide +kernel
theorem d_De_become_2 : decode b_De_become 2 = .ok (.putfield 17, 3) := by decide +kernel
theorem d_De_become_5 : decode b_De_become 5 = .ok (.aload_n 0, 1) := by decide +kernel
theorem d_De_become_6 : decode b_De_become 6 = .ok (.iload_n 3, 1) := by decide +kernel
theorem d_De_become_7 : decode b_De_become 7 = .ok (.putfield 21, 3) := by decide +kernel
theorem d_De_become_10 : decode b_De_become 10 = .ok (.iconst 0, 1) := by decide +kernel
theorem d_De_become_11 : decode b_De_become 11 = .ok (.istore 4, 2) := by decide +kernel
theorem d_De_become_13 : decode b_De_become 13 = .ok (.iload 4, 2) := by decide +kernel
theorem d_De_become_15 : decode b_De_become 15 = .ok (.bipush 19, 2) := by decide +kernel
theorem d_De_become_17 : decode b_De_become 17 = .ok (.if_icmp .ge 44, 3) := by decide +kernel
theorem d_De_become_20 : decode b_De_become 20 = .ok (.aload_n 0, 1) := by decide +kernel
theorem d_De_become_21 : decode b_De_become 21 = .ok (.getfield 17, 3) := by decide +kernel
theorem d_De_become_24 : decode b_De_become 24 = .ok (.ldc2_w 24, 3) := by decide +kernel
theorem d_De_become_27 : decode b_De_become 27 = .ok (.lrem, 1) := by decide +kernel
theorem d_De_become_28 : decode b_De_become 28 = .ok (.lconst 0, 1) := by decide +kernel
theorem d_De_become_29 : decode b_De_become 29 = .ok (.lcmp, 1) := by decide +kernel
theorem d_De_become_30 : decode b_De_become 30 = .ok (.ifCond .ne 31, 3) := by decide +kernel
theorem d_De_become_33 : decode b_De_become 33 = .ok (.aload_n 0, 1) := by decide +kernel
theorem d_De_become_34 : decode b_De_become 34 = .ok (.dup, 1) := by decide +kernel
theorem d_De_become_35 : decode b_De_become 35 = .ok (.getfield 17, 3) := by decide +kernel
theorem d_De_become_38 : decode b_De_become 38 = .ok (.ldc2_w 24, 3) := by decide +kernel
theorem d_De_become_41 : decode b_De_become 41 = .ok (.ldiv, 1) := by decide +kernel
theorem d_De_become_42 : decode b_De_become 42 = .ok (.putfield 17, 3) := by decide +kernel
theorem d_De_become_45 : decode b_De_become 45 = .ok (.aload_n 0, 1) := by decide +kernel
theorem d_De_become_46 : decode b_De_become 46 = .ok (.dup, 1) := by decide +kernel
theorem d_De_become_47 : decode b_De_become 47 = .ok (.getfield 21, 3) := by decide +kernel
theorem d_De_become_50 : decode b_De_become 50 = .ok (.iconst 1, 1) := by decide +kernel
theorem d_De_become_51 : decode b_De_become 51 = .ok (.iadd, 1) := by decide +kernel
theorem d_De_become_52 : decode b_De_become 52 = .ok (.putfield 21, 3) := by decide +kernel
theorem d_De_become_55 : decode b_De_become 55 = .ok (.iinc 4 1, 3) := by decide +kernel
theorem d_De_become_58 : decode b_De_become 58 = .ok (.goto (-45), 3) := by decide +kernel
theorem d_De_become_61 : decode b_De_become 61 = .ok (.aload_n 0, 1) := by decide +kernel
theorem d_De_become_62 : decode b_De_become 62 = .ok (.invokevirtual 26, 3) := by decide +kernel
theorem d_De_become_65 : decode b_De_become 65 = .ok (.return_, 1) := by decide +kernel
theorem d_De_spread_0 : decode b_De_spread 0 = .ok (.aload_n 0, 1) := by decide +kernel
theorem d_De_spread_1 : decode b_De_spread 1 = .ok (.getfield 17, 3) := by decide +kernel
theorem d_De_spread_4 : decode b_De_spread 4 = .ok (.lstore_n 1, 1) := by decide +kernel
theorem d_De_spread_5 : decode b_De_spread 5 = .ok (.aload_n 0, 1) := by decide +kernel
theorem d_De_spread_6 : decode b_De_spread 6 = .ok (.iconst 0, 1) := by decide +kernel
theorem d_De_spread_7 : decode b_De_spread 7 = .ok (.putfield 13, 3) := by decide +kernel
theorem d_De_spread_10 : decode b_De_spread 10 = .ok (.lload_n 1, 1) := by decide +kernel
theorem d_De_spread_11 : decode b_De_spread 11 = .ok (.lconst 0, 1) := by decide +kernel
theorem d_De_spread_12 : decode b_De_spread 12 = .ok (.lcmp, 1) := by decide +kernel
theorem d_De_spread_13 : decode b_De_spread 13 = .ok (.ifCond .le 54, 3) := by decide +kernel
theorem d_De_spread_16 : decode b_De_spread 16 = .ok (.aload_n 0, 1) := by decide +kernel
theorem d_De_spread_17 : decode b_De_spread 17 = .ok (.getfield 13, 3) := by decide +kernel
theorem d_De_spread_20 : decode b_De_spread 20 = .ok (.aload_n 0, 1) := by decide +kernel
theorem d_De_spread_21 : decode b_De_spread 21 = .ok (.getfield 9, 3) := by decide +kernel
theorem d_De_spread_24 : decode b_De_spread 24 = .ok (.arraylength, 1) := by decide +kernel
theorem d_De_spread_25 : decode b_De_spread 25 = .ok (.if_icmp .ge 42, 3) := by decide +kernel
theorem d_De_spread_28 : decode b_De_spread 28 = .ok (.aload_n 0, 1) := by decide +kernel
theorem d_De_spread_29 : decode b_De_spread 29 = .ok (.getfield 9, 3) := by decide +kernel
theorem d_De_spread_32 : decode b_De_spread 32 = .ok (.aload_n 0, 1) := by decide +kernel
theorem d_De_spread_33 : decode b_De_spread 33 = .ok (.getfield 13, 3) := by decide +kernel
theorem d_De_spread_36 : decode b_De_spread 36 = .ok (.ldc2_w 29, 3) := by decide +kernel
theorem d_De_spread_39 : decode b_De_spread 39 = .ok (.lload_n 1, 1) := by decide +kernel
theorem d_De_spread_40 : decode b_De_spread 40 = .ok (.ldc2_w 24, 3) := by decide +kernel
theorem d_De_spread_43 : decode b_De_spread 43 = .ok (.lrem, 1) := by decide +kernel
theorem d_De_spread_44 : decode b_De_spread 44 = .ok (.ladd, 1) := by decide +kernel
theorem d_De_spread_45 : decode b_De_spread 45 = .ok (.l2i, 1) := by decide +kernel
theorem d_De_spread_46 : decode b_De_spread 46 = .ok (.i2c, 1) := by decide +kernel
theorem d_De_spread_47 : decode b_De_spread 47 = .ok (.castore, 1) := by decide +kernel
theorem d_De_spread_48 : decode b_De_spread 48 = .ok (.lload_n 1, 1) := by decide +kernel
theorem d_De_spread_49 : decode b_De_spread 49 = .ok (.ldc2_w 24, 3) := by decide +kernel
theorem d_De_spread_52 : decode b_De_spread 52 = .ok (.ldiv, 1) := by decide +kernel
theorem d_De_spread_53 : decode b_De_spread 53 = .ok (.lstore_n 1, 1) := by decide +kernel
theorem d_De_spread_54 : decode b_De_spread 54 = .ok (.aload_n 0, 1) := by decide +kernel
theorem d_De_spread_55 : decode b_De_spread 55 = .ok (.dup, 1) := by decide +kernel
theorem d_De_spread_56 : decode b_De_spread 56 = .ok (.getfield 13, 3) := by decide +kernel
theorem d_De_spread_59 : decode b_De_spread 59 = .ok (.iconst 1, 1) := by decide +kernel
theorem d_De_spread_60 : decode b_De_spread 60 = .ok (.iadd, 1) := by decide +kernel
theorem d_De_spread_61 : decode b_De_spread 61 = .ok (.putfield 13, 3) := by decide +kernel
theorem d_De_spread_64 : decode b_De_spread 64 = .ok (.goto (-54), 3) := by decide +kernel
theorem d_De_spread_67 : decode b_De_spread 67 = .ok (.return_, 1) := by decide +kernel
theorem d_De_firstPlace_0 : decode b_De_firstPlace 0 = .ok (.aload_n 0, 1) := by decide +kernel
theorem d_De_firstPlace_1 : decode b_De_firstPlace 1 = .ok (.getfield 21, 3) := by decide +kernel
theorem d_De_firstPlace_4 : decode b_De_firstPlace 4 = .ok (.aload_n 0, 1) := by decide +kernel
theorem d_De_firstPlace_5 : decode b_De_firstPlace 5 = .ok (.getfield 13, 3) := by decide +kernel
theorem d_De_firstPlace_8 : decode b_De_firstPlace 8 = .ok (.iadd, 1) := by decide +kernel
theorem d_De_firstPlace_9 : decode b_De_firstPlace 9 = .ok (.iconst 1, 1) := by decide +kernel
theorem d_De_firstPlace_10 : decode b_De_firstPlace 10 = .ok (.isub, 1) := by decide +kernel
theorem d_De_firstPlace_11 : decode b_De_firstPlace 11 = .ok (.ireturn, 1) := by decide +kernel
theorem d_De_digitAt_0 : decode b_De_digitAt 0 = .ok (.iload_n 1, 1) := by decide +kernel
theorem d_De_digitAt_1 : decode b_De_digitAt 1 = .ok (.aload_n 0, 1) := by decide +kernel
theorem d_De_digitAt_2 : decode b_De_digitAt 2 = .ok (.getfield 21, 3) := by decide +kernel
theorem d_De_digitAt_5 : decode b_De_digitAt 5 = .ok (.isub, 1) := by decide +kernel
theorem d_De_digitAt_6 : decode b_De_digitAt 6 = .ok (.istore_n 2, 1) := by decide +kernel
theorem d_De_digitAt_7 : decode b_De_digitAt 7 = .ok (.iload_n 2, 1) := by decide +kernel
theorem d_De_digitAt_8 : decode b_De_digitAt 8 = .ok (.ifCond .lt 29, 3) := by decide +kernel
theorem d_De_digitAt_11 : decode b_De_digitAt 11 = .ok (.iload_n 2, 1) := by decide +kernel
theorem d_De_digitAt_12 : decode b_De_digitAt 12 = .ok (.aload_n 0, 1) := by decide +kernel
theorem d_De_digitAt_13 : decode b_De_digitAt 13 = .ok (.getfield 13, 3) := by decide +kernel
theorem d_De_digitAt_16 : decode b_De_digitAt 16 = .ok (.if_icmp .ge 21, 3) := by decide +kernel
theorem d_De_digitAt_19 : decode b_De_digitAt 19 = .ok (.iload_n 2, 1) := by decide +kernel
theorem d_De_digitAt_20 : decode b_De_digitAt 20 = .ok (.aload_n 0, 1) := by decide +kernel
theorem d_De_digitAt_21 : decode b_De_digitAt 21 = .ok (.getfield 9, 3) := by decide +kernel
theorem d_De_digitAt_24 : decode b_De_digitAt 24 = .ok (.arraylength, 1) := by decide +kernel
theorem d_De_digitAt_25 : decode b_De_digitAt 25 = .ok (.if_icmp .ge 12, 3) := by decide +kernel
theorem d_De_digitAt_28 : decode b_De_digitAt 28 = .ok (.aload_n 0, 1) := by decide +kernel
theorem d_De_digitAt_29 : decode b_De_digitAt 29 = .ok (.getfield 9, 3) := by decide +kernel
theorem d_De_digitAt_32 : decode b_De_digitAt 32 = .ok (.iload_n 2, 1) := by decide +kernel
theorem d_De_digitAt_33 : decode b_De_digitAt 33 = .ok (.caload, 1) := by decide +kernel
theorem d_De_digitAt_34 : decode b_De_digitAt 34 = .ok (.goto 5, 3) := by decide +kernel
theorem d_De_digitAt_37 : decode b_De_digitAt 37 = .ok (.bipush 48, 2) := by decide +kernel
theorem d_De_digitAt_39 : decode b_De_digitAt 39 = .ok (.ireturn, 1) := by decide +kernel
theorem d_Fi_init_0 : decode b_Fi_init 0 = .ok (.aload_n 0, 1) := by decide +kernel
theorem d_Fi_init_1 : decode b_Fi_init 1 = .ok (.invokespecial 1, 3) := by decide +kernel
theorem d_Fi_init_4 : decode b_Fi_init 4 = .ok (.aload_n 0, 1) := by decide +kernel
theorem d_Fi_init_5 : decode b_Fi_init 5 = .ok (.new 7, 3) := by decide +kernel
theorem d_Fi_init_8 : decode b_Fi_init 8 = .ok (.dup, 1) := by decide +kernel
theorem d_Fi_init_9 : decode b_Fi_init 9 = .ok (.invokespecial 9, 3) := by decide +kernel
theorem d_Fi_init_12 : decode b_Fi_init 12 = .ok (.putfield 10, 3) := by decide +kernel
theorem d_Fi_init_15 : decode b_Fi_init 15 = .ok (.aload_n 0, 1) := by decide +kernel
theorem d_Fi_init_16 : decode b_Fi_init 16 = .ok (.new 7, 3) := by decide +kernel
theorem d_Fi_init_19 : decode b_Fi_init 19 = .ok (.dup, 1) := by decide +kernel
theorem d_Fi_init_20 : decode b_Fi_init 20 = .ok (.invokespecial 9, 3) := by decide +kernel
theorem d_Fi_init_23 : decode b_Fi_init 23 = .ok (.putfield 16, 3) := by decide +kernel
theorem d_Fi_init_26 : decode b_Fi_init 26 = .ok (.aload_n 0, 1) := by decide +kernel
theorem d_Fi_init_27 : decode b_Fi_init 27 = .ok (.new 7, 3) := by decide +kernel
theorem d_Fi_init_30 : decode b_Fi_init 30 = .ok (.dup, 1) := by decide +kernel
theorem d_Fi_init_31 : decode b_Fi_init 31 = .ok (.invokespecial 9, 3) := by decide +kernel
theorem d_Fi_init_34 : decode b_Fi_init 34 = .ok (.putfield 19, 3) := by decide +kernel
theorem d_Fi_init_37 : decode b_Fi_init 37 = .ok (.return_, 1) := by decide +kernel
theorem d_Fi_find_0 : decode b_Fi_find 0 = .ok (.lload_n 1, 1) := by decide +kernel
theorem d_Fi_find_1 : decode b_Fi_find 1 = .ok (.iload_n 3, 1) := by decide +kernel
theorem d_Fi_find_2 : decode b_Fi_find 2 = .ok (.invokestatic 22, 3) := by decide +kernel
theorem d_Fi_find_5 : decode b_Fi_find 5 = .ok (.istore 6, 2) := by decide +kernel
theorem d_Fi_find_7 : decode b_Fi_find 7 = .ok (.aload_n 0, 1) := by decide +kernel
theorem d_Fi_find_8 : decode b_Fi_find 8 = .ok (.lload_n 1, 1) := by decide +kernel
theorem d_Fi_find_9 : decode b_Fi_find 9 = .ok (.iload_n 3, 1) := by decide +kernel
theorem d_Fi_find_10 : decode b_Fi_find 10 = .ok (.iload 6, 2) := by decide +kernel
theorem d_Fi_find_12 : decode b_Fi_find 12 = .ok (.invokevirtual 26, 3) := by decide +kernel
theorem d_Fi_find_15 : decode b_Fi_find 15 = .ok (.aload_n 0, 1) := by decide +kernel
theorem d_Fi_find_16 : decode b_Fi_find 16 = .ok (.getfield 10, 3) := by decide +kernel
theorem d_Fi_find_19 : decode b_Fi_find 19 = .ok (.aload_n 0, 1) := by decide +kernel
theorem d_Fi_find_20 : decode b_Fi_find 20 = .ok (.getfield 19, 3) := by decide +kernel
theorem d_Fi_find_23 : decode b_Fi_find 23 = .ok (.invokevirtual 30, 3) := by decide +kernel
theorem d_Fi_find_26 : decode b_Fi_find 26 = .ok (.ifCond .ge 10, 3) := by decide +kernel
theorem d_Fi_find_29 : decode b_Fi_find 29 = .ok (.aload_n 0, 1) := by decide +kernel
theorem d_Fi_find_30 : decode b_Fi_find 30 = .ok (.invokevirtual 34, 3) := by decide +kernel
theorem d_Fi_find_33 : decode b_Fi_find 33 = .ok (.iinc 6 (-1), 3) := by decide +kernel
theorem d_Fi_find_36 : decode b_Fi_find 36 = .ok (.lload_n 1, 1) := by decide +kernel
theorem d_Fi_find_37 : decode b_Fi_find 37 = .ok (.lconst 1, 1) := by decide +kernel
theorem d_Fi_find_38 : decode b_Fi_find 38 = .ok (.land, 1) := by decide +kernel
theorem d_Fi_find_39 : decode b_Fi_find 39 = .ok (.lconst 0, 1) := by decide +kernel
theorem d_Fi_find_40 : decode b_Fi_find 40 = .ok (.lcmp, 1) := by decide +kernel
theorem d_Fi_find_41 : decode b_Fi_find 41 = .ok (.ifCond .ne 7, 3) := by decide +kernel
theorem d_Fi_find_44 : decode b_Fi_find 44 = .ok (.iconst 1, 1) := by decide +kernel
theorem d_Fi_find_45 : decode b_Fi_find 45 = .ok (.goto 4, 3) := by decide +kernel
theorem d_Fi_find_48 : decode b_Fi_find 48 = .ok (.iconst 0, 1) := by decide +kernel
theorem d_Fi_find_49 : decode b_Fi_find 49 = .ok (.istore 7, 2) := by decide +kernel
theorem d_Fi_find_51 : decode b_Fi_find 51 = .ok (.iconst 0, 1) := by decide +kernel
theorem d_Fi_find_52 : decode b_Fi_find 52 = .ok (.istore 8, 2) := by decide +kernel
theorem d_Fi_find_54 : decode b_Fi_find 54 = .ok (.iconst 0, 1) := by decide +kernel
theorem d_Fi_find_55 : decode b_Fi_find 55 = .ok (.istore 9, 2) := by decide +kernel
theorem d_Fi_find_57 : decode b_Fi_find 57 = .ok (.aload_n 0, 1) := by decide +kernel
theorem d_Fi_find_58 : decode b_Fi_find 58 = .ok (.invokevirtual 37, 3) := by decide +kernel
theorem d_Fi_find_61 : decode b_Fi_find 61 = .ok (.i2l, 1) := by decide +kernel
theorem d_Fi_find_62 : decode b_Fi_find 62 = .ok (.lstore 10, 2) := by decide +kernel
theorem d_Fi_find_64 : decode b_Fi_find 64 = .ok (.iconst 2, 1) := by decide +kernel
theorem d_Fi_find_65 : decode b_Fi_find 65 = .ok (.istore 12, 2) := by decide +kernel
theorem d_Fi_find_67 : decode b_Fi_find 67 = .ok (.iload 12, 2) := by decide +kernel
theorem d_Fi_find_69 : decode b_Fi_find 69 = .ok (.bipush 17, 2) := by decide +kernel
theorem d_Fi_find_71 : decode b_Fi_find 71 = .ok (.if_icmp .gt 64, 3) := by decide +kernel
theorem d_Fi_find_74 : decode b_Fi_find 74 = .ok (.iload 8, 2) := by decide +kernel
theorem d_Fi_find_76 : decode b_Fi_find 76 = .ok (.ifCond .ne 59, 3) := by decide +kernel
theorem d_Fi_find_79 : decode b_Fi_find 79 = .ok (.iload 9, 2) := by decide +kernel
theorem d_Fi_find_81 : decode b_Fi_find 81 = .ok (.ifCond .ne 54, 3) := by decide +kernel
theorem d_Fi_find_84 : decode b_Fi_find 84 = .ok (.aload_n 0, 1) := by decide +kernel
theorem d_Fi_find_85 : decode b_Fi_find 85 = .ok (.invokevirtual 34, 3) := by decide +kernel
theorem d_Fi_find_88 : decode b_Fi_find 88 = .ok (.iinc 6 (-1), 3) := by decide +kernel
theorem d_Fi_find_91 : decode b_Fi_find 91 = .ok (.lload 10, 2) := by decide +kernel
theorem d_Fi_find_93 : decode b_Fi_find 93 = .ok (.ldc2_w 41, 3) := by decide +kernel
theorem d_Fi_find_96 : decode b_Fi_find 96 = .ok (.lmul, 1) := by decide +kernel
theorem d_Fi_find_97 : decode b_Fi_find 97 = .ok (.aload_n 0, 1) := by decide +kernel
theorem d_Fi_find_98 : decode b_Fi_find 98 = .ok (.invokevirtual 37, 3) := by decide +kernel
theorem d_Fi_find_101 : decode b_Fi_find 101 = .ok (.i2l, 1) := by decide +kernel
theorem d_Fi_find_102 : decode b_Fi_find 102 = .ok (.ladd, 1) := by decide +kernel
theorem d_Fi_find_103 : decode b_Fi_find 103 = .ok (.lstore 10, 2) := by decide +kernel
theorem d_Fi_find_105 : decode b_Fi_find 105 = .ok (.aload_n 0, 1) := by decide +kernel
theorem d_Fi_find_106 : decode b_Fi_find 106 = .ok (.iload 4, 2) := by decide +kernel
theorem d_Fi_find_108 : decode b_Fi_find 108 = .ok (.invokevirtual 43, 3) := by decide +kernel
theorem d_Fi_find_111 : decode b_Fi_find 111 = .ok (.iload 7, 2) := by decide +kernel
theorem d_Fi_find_113 : decode b_Fi_find 113 = .ok (.invokestatic 47, 3) := by decide +kernel
theorem d_Fi_find_116 : decode b_Fi_find 116 = .ok (.istore 8, 2) := by decide +kernel
theorem d_Fi_find_118 : decode b_Fi_find 118 = .ok (.aload_n 0, 1) := by decide +kernel
theorem d_Fi_find_119 : decode b_Fi_find 119 = .ok (.invokevirtual 51, 3) := by decide +kernel
theorem d_Fi_find_122 : decode b_Fi_find 122 = .ok (.iload 7, 2) := by decide +kernel
theorem d_Fi_find_124 : decode b_Fi_find 124 = .ok (.invokestatic 47, 3) := by decide +kernel
theorem d_Fi_find_127 : decode b_Fi_find 127 = .ok (.istore 9, 2) := by decide +kernel
theorem d_Fi_find_129 : decode b_Fi_find 129 = .ok (.iinc 12 1, 3) := by decide +kernel
theorem d_Fi_find_132 : decode b_Fi_find 132 = .ok (.goto (-65), 3) := by decide +kernel
theorem d_Fi_find_135 : decode b_Fi_find 135 = .ok (.iload 9, 2) := by decide +kernel
theorem d_Fi_find_137 : decode b_Fi_find 137 = .ok (.ifCond .eq 21, 3) := by decide +kernel
theorem d_Fi_find_140 : decode b_Fi_find 140 = .ok (.iload 8, 2) := by decide +kernel
theorem d_Fi_find_142 : decode b_Fi_find 142 = .ok (.ifCond .eq 12, 3) := by decide +kernel
theorem d_Fi_find_145 : decode b_Fi_find 145 = .ok (.aload_n 0, 1) := by decide +kernel
theorem d_Fi_find_146 : decode b_Fi_find 146 = .ok (.lload 10, 2) := by decide +kernel
theorem d_Fi_find_148 : decode b_Fi_find 148 = .ok (.invokevirtual 54, 3) := by decide +kernel
theorem d_Fi_find_151 : decode b_Fi_find 151 = .ok (.ifCond .eq 7, 3) := by decide +kernel
theorem d_Fi_find_154 : decode b_Fi_find 154 = .ok (.iconst 1, 1) := by decide +kernel
theorem d_Fi_find_155 : decode b_Fi_find 155 = .ok (.goto 4, 3) := by decide +kernel
theorem d_Fi_find_158 : decode b_Fi_find 158 = .ok (.iconst 0, 1) := by decide +kernel
theorem d_Fi_find_159 : decode b_Fi_find 159 = .ok (.istore 12, 2) := by decide +kernel
theorem d_Fi_find_161 : decode b_Fi_find 161 = .ok (.aload 5, 2) := by decide +kernel
theorem d_Fi_find_163 : decode b_Fi_find 163 = .ok (.iload 12, 2) := by decide +kernel
theorem d_Fi_find_165 : decode b_Fi_find 165 = .ok (.ifCond .eq 10, 3) := by decide +kernel
theorem d_Fi_find_168 : decode b_Fi_find 168 = .ok (.lload 10, 2) := by decide +kernel
theorem d_Fi_find_170 : decode b_Fi_find 170 = .ok (.lconst 1, 1) := by decide +kernel
theorem d_Fi_find_171 : decode b_Fi_find 171 = .ok (.ladd, 1) := by decide +kernel
theorem d_Fi_find_172 : decode b_Fi_find 172 = .ok (.goto 5, 3) := by decide +kernel
theorem d_Fi_find_175 : decode b_Fi_find 175 = .ok (.lload 10, 2) := by decide +kernel
theorem d_Fi_find_177 : decode b_Fi_find 177 = .ok (.iload 6, 2) := by decide +kernel
theorem d_Fi_find_179 : decode b_Fi_find 179 = .ok (.invokevirtual 58, 3) := by decide +kernel
theorem d_Fi_find_182 : decode b_Fi_find 182 = .ok (.return_, 1) := by decide +kernel
theorem d_Fi_highestPlace_0 : decode b_Fi_highestPlace 0 = .ok (.bipush 63, 2) := by decide +kernel
theorem d_Fi_highestPlace_2 : decode b_Fi_highestPlace 2 = .ok (.lload_n 0, 1) := by decide +kernel
theorem d_Fi_highestPlace_3 : decode b_Fi_highestPlace 3 = .ok (.invokestatic 64, 3) := by decide +kernel
theorem d_Fi_highestPlace_6 : decode b_Fi_highestPlace 6 = .ok (.isub, 1) := by decide +kernel
theorem d_Fi_highestPlace_7 : decode b_Fi_highestPlace 7 = .ok (.iload_n 2, 1) := by decide +kernel
theorem d_Fi_highestPlace_8 : decode b_Fi_highestPlace 8 = .ok (.iadd, 1) := by decide +kernel
theorem d_Fi_highestPlace_9 : decode b_Fi_highestPlace 9 = .ok (.istore_n 3, 1) := by decide +kernel
theorem d_Fi_highestPlace_10 : decode b_Fi_highestPlace 10 = .ok (.iload_n 3, 1) := by decide +kernel
theorem d_Fi_highestPlace_11 : decode b_Fi_highestPlace 11 = .ok (.ldc 70, 2) := by decide +kernel
theorem d_Fi_highestPlace_13 : decode b_Fi_highestPlace 13 = .ok (.imul, 1) := by decide +kernel
theorem d_Fi_highestPlace_14 : decode b_Fi_highestPlace 14 = .ok (.bipush 20, 2) := by decide +kernel
theorem d_Fi_highestPlace_16 : decode b_Fi_highestPlace 16 = .ok (.ishr, 1) := by decide +kernel
theorem d_Fi_highestPlace_17 : decode b_Fi_highestPlace 17 = .ok (.iconst 1, 1) := by decide +kernel
theorem d_Fi_highestPlace_18 : decode b_Fi_highestPlace 18 = .ok (.iadd, 1) := by decide +kernel
theorem d_Fi_highestPlace_19 : decode b_Fi_highestPlace 19 = .ok (.ireturn, 1) := by decide +kernel
theorem d_Fi_scale_0 : decode b_Fi_scale 0 = .ok (.aload_n 0, 1) := by decide +kernel
theorem d_Fi_scale_1 : decode b_Fi_scale 1 = .ok (.getfield 10, 3) := by decide +kernel
theorem d_Fi_scale_4 : decode b_Fi_scale 4 = .ok (.ldc2_w 71, 3) := by decide +kernel
theorem d_Fi_scale_7 : decode b_Fi_scale 7 = .ok (.lload_n 1, 1) := by decide +kernel
theorem d_Fi_scale_8 : decode b_Fi_scale 8 = .ok (.lmul, 1) := by decide +kernel
theorem d_Fi_scale_9 : decode b_Fi_scale 9 = .ok (.invokevirtual 73, 3) := by decide +kernel
theorem d_Fi_scale_12 : decode b_Fi_scale 12 = .ok (.aload_n 0, 1) := by decide +kernel
theorem d_Fi_scale_13 : decode b_Fi_scale 13 = .ok (.getfield 16, 3) := by decide +kernel
theorem d_Fi_scale_16 : decode b_Fi_scale 16 = .ok (.lconst 1, 1) := by decide +kernel
theorem d_Fi_scale_17 : decode b_Fi_scale 17 = .ok (.invokevirtual 73, 3) := by decide +kernel
theorem d_Fi_scale_20 : decode b_Fi_scale 20 = .ok (.aload_n 0, 1) := by decide +kernel
theorem d_Fi_scale_21 : decode b_Fi_scale 21 = .ok (.getfield 19, 3) := by decide +kernel
theorem d_Fi_scale_24 : decode b_Fi_scale 24 = .ok (.lconst 1, 1) := by decide +kernel
theorem d_Fi_scale_25 : decode b_Fi_scale 25 = .ok (.invokevirtual 73, 3) := by decide +kernel
theorem d_Fi_scale_28 : decode b_Fi_scale 28 = .ok (.aload_n 0, 1) := by decide +kernel
theorem d_Fi_scale_29 : decode b_Fi_scale 29 = .ok (.getfield 10, 3) := by decide +kernel
theorem d_Fi_scale_32 : decode b_Fi_scale 32 = .ok (.iload 4, 2) := by decide +kernel
theorem d_Fi_scale_34 : decode b_Fi_scale 34 = .ok (.ineg, 1) := by decide +kernel
theorem d_Fi_scale_35 : decode b_Fi_scale 35 = .ok (.invokevirtual 76, 3) := by decide +kernel
theorem d_Fi_scale_38 : decode b_Fi_scale 38 = .ok (.aload_n 0, 1) := by decide +kernel
theorem d_Fi_scale_39 : decode b_Fi_scale 39 = .ok (.getfield 16, 3) := by decide +kernel
theorem d_Fi_scale_42 : decode b_Fi_scale 42 = .ok (.iload 4, 2) := by decide +kernel
theorem d_Fi_scale_44 : decode b_Fi_scale 44 = .ok (.ineg, 1) := by decide +kernel
theorem d_Fi_scale_45 : decode b_Fi_scale 45 = .ok (.invokevirtual 76, 3) := by decide +kernel
theorem d_Fi_scale_48 : decode b_Fi_scale 48 = .ok (.aload_n 0, 1) := by decide +kernel
theorem d_Fi_scale_49 : decode b_Fi_scale 49 = .ok (.getfield 19, 3) := by decide +kernel
theorem d_Fi_scale_52 : decode b_Fi_scale 52 = .ok (.iload 4, 2) := by decide +kernel
theorem d_Fi_scale_54 : decode b_Fi_scale 54 = .ok (.invokevirtual 76, 3) := by decide +kernel
theorem d_Fi_scale_57 : decode b_Fi_scale 57 = .ok (.iload_n 3, 1) := by decide +kernel
theorem d_Fi_scale_58 : decode b_Fi_scale 58 = .ok (.iconst 1, 1) := by decide +kernel
theorem d_Fi_scale_59 : decode b_Fi_scale 59 = .ok (.isub, 1) := by decide +kernel
theorem d_Fi_scale_60 : decode b_Fi_scale 60 = .ok (.iload 4, 2) := by decide +kernel
theorem d_Fi_scale_62 : decode b_Fi_scale 62 = .ok (.isub, 1) := by decide +kernel
theorem d_Fi_scale_63 : decode b_Fi_scale 63 = .ok (.istore 5, 2) := by decide +kernel
theorem d_Fi_scale_65 : decode b_Fi_scale 65 = .ok (.aload_n 0, 1) := by decide +kernel
theorem d_Fi_scale_66 : decode b_Fi_scale 66 = .ok (.getfield 10, 3) := by decide +kernel
theorem d_Fi_scale_69 : decode b_Fi_scale 69 = .ok (.iload 5, 2) := by decide +kernel
theorem d_Fi_scale_71 : decode b_Fi_scale 71 = .ok (.invokevirtual 80, 3) := by decide +kernel
theorem d_Fi_scale_74 : decode b_Fi_scale 74 = .ok (.aload_n 0, 1) := by decide +kernel
theorem d_Fi_scale_75 : decode b_Fi_scale 75 = .ok (.getfield 16, 3) := by decide +kernel
theorem d_Fi_scale_78 : decode b_Fi_scale 78 = .ok (.iload 5, 2) := by decide +kernel
theorem d_Fi_scale_80 : decode b_Fi_scale 80 = .ok (.invokevirtual 80, 3) := by decide +kernel
theorem d_Fi_scale_83 : decode b_Fi_scale 83 = .ok (.aload_n 0, 1) := by decide +kernel
theorem d_Fi_scale_84 : decode b_Fi_scale 84 = .ok (.getfield 19, 3) := by decide +kernel
theorem d_Fi_scale_87 : decode b_Fi_scale 87 = .ok (.iload 5, 2) := by decide +kernel
theorem d_Fi_scale_89 : decode b_Fi_scale 89 = .ok (.ineg, 1) := by decide +kernel
theorem d_Fi_scale_90 : decode b_Fi_scale 90 = .ok (.invokevirtual 80, 3) := by decide +kernel
theorem d_Fi_scale_93 : decode b_Fi_scale 93 = .ok (.return_, 1) := by decide +kernel
theorem d_Fi_tenfold_0 : decode b_Fi_tenfold 0 = .ok (.aload_n 0, 1) := by decide +kernel
theorem d_Fi_tenfold_1 : decode b_Fi_tenfold 1 = .ok (.getfield 10, 3) := by decide +kernel
theorem d_Fi_tenfold_4 : decode b_Fi_tenfold 4 = .ok (.ldc2_w 41, 3) := by decide +kernel
theorem d_Fi_tenfold_7 : decode b_Fi_tenfold 7 = .ok (.invokevirtual 83, 3) := by decide +kernel
theorem d_Fi_tenfold_10 : decode b_Fi_tenfold 10 = .ok (.aload_n 0, 1) := by decide +kernel
theorem d_Fi_tenfold_11 : decode b_Fi_tenfold 11 = .ok (.getfield 16, 3) := by decide +kernel
theorem d_Fi_tenfold_14 : decode b_Fi_tenfold 14 = .ok (.ldc2_w 41, 3) := by decide +kernel
theorem d_Fi_tenfold_17 : decode b_Fi_tenfold 17 = .ok (.invokevirtual 83, 3) := by decide +kernel
theorem d_Fi_tenfold_20 : decode b_Fi_tenfold 20 = .ok (.return_, 1) := by decide +kernel
theorem d_Fi_takeDigit_0 : decode b_Fi_takeDigit 0 = .ok (.iconst 0, 1) := by decide +kernel
theorem d_Fi_takeDigit_1 : decode b_Fi_takeDigit 1 = .ok (.istore_n 1, 1) := by decide +kernel
theorem d_Fi_takeDigit_2 : decode b_Fi_takeDigit 2 = .ok (.iload_n 1, 1) := by decide +kernel
theorem d_Fi_takeDigit_3 : decode b_Fi_takeDigit 3 = .ok (.bipush 9, 2) := by decide +kernel
theorem d_Fi_takeDigit_5 : decode b_Fi_takeDigit 5 = .ok (.if_icmp .ge 34, 3) := by decide +kernel
theorem d_Fi_takeDigit_8 : decode b_Fi_takeDigit 8 = .ok (.aload_n 0, 1) := by decide +kernel
theorem d_Fi_takeDigit_9 : decode b_Fi_takeDigit 9 = .ok (.getfield 10, 3) := by decide +kernel
theorem d_Fi_takeDigit_12 : decode b_Fi_takeDigit 12 = .ok (.aload_n 0, 1) := by decide +kernel
theorem d_Fi_takeDigit_13 : decode b_Fi_takeDigit 13 = .ok (.getfield 19, 3) := by decide +kernel
theorem d_Fi_takeDigit_16 : decode b_Fi_takeDigit 16 = .ok (.invokevirtual 30, 3) := by decide +kernel
theorem d_Fi_takeDigit_19 : decode b_Fi_takeDigit 19 = .ok (.ifCond .lt 20, 3) := by decide +kernel
theorem d_Fi_takeDigit_22 : decode b_Fi_takeDigit 22 = .ok (.aload_n 0, 1) := by decide +kernel
theorem d_Fi_takeDigit_23 : decode b_Fi_takeDigit 23 = .ok (.getfield 10, 3) := by decide +kernel
theorem d_Fi_takeDigit_26 : decode b_Fi_takeDigit 26 = .ok (.aload_n 0, 1) := by decide +kernel
theorem d_Fi_takeDigit_27 : decode b_Fi_takeDigit 27 = .ok (.getfield 19, 3) := by decide +kernel
theorem d_Fi_takeDigit_30 : decode b_Fi_takeDigit 30 = .ok (.invokevirtual 86, 3) := by decide +kernel
theorem d_Fi_takeDigit_33 : decode b_Fi_takeDigit 33 = .ok (.iinc 1 1, 3) := by decide +kernel
theorem d_Fi_takeDigit_36 : decode b_Fi_takeDigit 36 = .ok (.goto (-34), 3) := by decide +kernel
theorem d_Fi_takeDigit_39 : decode b_Fi_takeDigit 39 = .ok (.iload_n 1, 1) := by decide +kernel
theorem d_Fi_takeDigit_40 : decode b_Fi_takeDigit 40 = .ok (.ireturn, 1) := by decide +kernel
theorem d_Fi_compareDown_0 : decode b_Fi_compareDown 0 = .ok (.iload_n 1, 1) := by decide +kernel
theorem d_Fi_compareDown_1 : decode b_Fi_compareDown 1 = .ok (.ifCond .eq 21, 3) := by decide +kernel
theorem d_Fi_compareDown_4 : decode b_Fi_compareDown 4 = .ok (.aload_n 0, 1) := by decide +kernel
theorem d_Fi_compareDown_5 : decode b_Fi_compareDown 5 = .ok (.getfield 10, 3) := by decide +kernel
theorem d_Fi_compareDown_8 : decode b_Fi_compareDown 8 = .ok (.aload_n 0, 1) := by decide +kernel
theorem d_Fi_compareDown_9 : decode b_Fi_compareDown 9 = .ok (.getfield 10, 3) := by decide +kernel
theorem d_Fi_compareDown_12 : decode b_Fi_compareDown 12 = .ok (.aload_n 0, 1) := by decide +kernel
theorem d_Fi_compareDown_13 : decode b_Fi_compareDown 13 = .ok (.getfield 16, 3) := by decide +kernel
theorem d_Fi_compareDown_16 : decode b_Fi_compareDown 16 = .ok (.invokestatic 90, 3) := by decide +kernel
theorem d_Fi_compareDown_19 : decode b_Fi_compareDown 19 = .ok (.goto 14, 3) := by decide +kernel
theorem d_Fi_compareDown_22 : decode b_Fi_compareDown 22 = .ok (.aload_n 0, 1) := by decide +kernel
theorem d_Fi_compareDown_23 : decode b_Fi_compareDown 23 = .ok (.getfield 10, 3) := by decide +kernel
theorem d_Fi_compareDown_26 : decode b_Fi_compareDown 26 = .ok (.aload_n 0, 1) := by decide +kernel
theorem d_Fi_compareDown_27 : decode b_Fi_compareDown 27 = .ok (.getfield 16, 3) := by decide +kernel
theorem d_Fi_compareDown_30 : decode b_Fi_compareDown 30 = .ok (.invokevirtual 30, 3) := by decide +kernel
theorem d_Fi_compareDown_33 : decode b_Fi_compareDown 33 = .ok (.ireturn, 1) := by decide +kernel
theorem d_Fi_compareUp_0 : decode b_Fi_compareUp 0 = .ok (.aload_n 0, 1) := by decide +kernel
theorem d_Fi_compareUp_1 : decode b_Fi_compareUp 1 = .ok (.getfield 10, 3) := by decide +kernel
theorem d_Fi_compareUp_4 : decode b_Fi_compareUp 4 = .ok (.aload_n 0, 1) := by decide +kernel
theorem d_Fi_compareUp_5 : decode b_Fi_compareUp 5 = .ok (.getfield 16, 3) := by decide +kernel
theorem d_Fi_compareUp_8 : decode b_Fi_compareUp 8 = .ok (.aload_n 0, 1) := by decide +kernel
theorem d_Fi_compareUp_9 : decode b_Fi_compareUp 9 = .ok (.getfield 19, 3) := by decide +kernel
theorem d_Fi_compareUp_12 : decode b_Fi_compareUp 12 = .ok (.invokestatic 90, 3) := by decide +kernel
theorem d_Fi_compareUp_15 : decode b_Fi_compareUp 15 = .ok (.ineg, 1) := by decide +kernel
theorem d_Fi_compareUp_16 : decode b_Fi_compareUp 16 = .ok (.ireturn, 1) := by decide +kernel
theorem d_Fi_isWithin_0 : decode b_Fi_isWithin 0 = .ok (.iload_n 0, 1) := by decide +kernel
theorem d_Fi_isWithin_1 : decode b_Fi_isWithin 1 = .ok (.ifCond .lt 11, 3) := by decide +kernel
theorem d_Fi_isWithin_4 : decode b_Fi_isWithin 4 = .ok (.iload_n 0, 1) := by decide +kernel
theorem d_Fi_isWithin_5 : decode b_Fi_isWithin 5 = .ok (.ifCond .ne 11, 3) := by decide +kernel
theorem d_Fi_isWithin_8 : decode b_Fi_isWithin 8 = .ok (.iload_n 1, 1) := by decide +kernel
theorem d_Fi_isWithin_9 : decode b_Fi_isWithin 9 = .ok (.ifCond .eq 7, 3) := by decide +kernel
theorem d_Fi_isWithin_12 : decode b_Fi_isWithin 12 = .ok (.iconst 1, 1) := by decide +kernel
theorem d_Fi_isWithin_13 : decode b_Fi_isWithin 13 = .ok (.goto 4, 3) := by decide +kernel
theorem d_Fi_isWithin_16 : decode b_Fi_isWithin 16 = .ok (.iconst 0, 1) := by decide +kernel
theorem d_Fi_isWithin_17 : decode b_Fi_isWithin 17 = .ok (.ireturn, 1) := by decide +kernel
theorem d_Fi_isUpNearer_0 : decode b_Fi_isUpNearer 0 = .ok (.aload_n 0, 1) := by decide +kernel
theorem d_Fi_isUpNearer_1 : decode b_Fi_isUpNearer 1 = .ok (.getfield 10, 3) := by decide +kernel
theorem d_Fi_isUpNearer_4 : decode b_Fi_isUpNearer 4 = .ok (.aload_n 0, 1) := by decide +kernel
theorem d_Fi_isUpNearer_5 : decode b_Fi_isUpNearer 5 = .ok (.getfield 10, 3) := by decide +kernel
theorem d_Fi_isUpNearer_8 : decode b_Fi_isUpNearer 8 = .ok (.aload_n 0, 1) := by decide +kernel
theorem d_Fi_isUpNearer_9 : decode b_Fi_isUpNearer 9 = .ok (.getfield 19, 3) := by decide +kernel
theorem d_Fi_isUpNearer_12 : decode b_Fi_isUpNearer 12 = .ok (.invokestatic 90, 3) := by decide +kernel
theorem d_Fi_isUpNearer_15 : decode b_Fi_isUpNearer 15 = .ok (.istore_n 3, 1) := by decide +kernel
theorem d_Fi_isUpNearer_16 : decode b_Fi_isUpNearer 16 = .ok (.iload_n 3, 1) := by decide +kernel
theorem d_Fi_isUpNearer_17 : decode b_Fi_isUpNearer 17 = .ok (.ifCond .gt 15, 3) := by decide +kernel
theorem d_Fi_isUpNearer_20 : decode b_Fi_isUpNearer 20 = .ok (.iload_n 3, 1) := by decide +kernel
theorem d_Fi_isUpNearer_21 : decode b_Fi_isUpNearer 21 = .ok (.ifCond .ne 15, 3) := by decide +kernel
theorem d_Fi_isUpNearer_24 : decode b_Fi_isUpNearer 24 = .ok (.lload_n 1, 1) := by decide +kernel
theorem d_Fi_isUpNearer_25 : decode b_Fi_isUpNearer 25 = .ok (.lconst 1, 1) := by decide +kernel
theorem d_Fi_isUpNearer_26 : decode b_Fi_isUpNearer 26 = .ok (.land, 1) := by decide +kernel
theorem d_Fi_isUpNearer_27 : decode b_Fi_isUpNearer 27 = .ok (.lconst 1, 1) := by decide +kernel
theorem d_Fi_isUpNearer_28 : decode b_Fi_isUpNearer 28 = .ok (.lcmp, 1) := by decide +kernel
theorem d_Fi_isUpNearer_29 : decode b_Fi_isUpNearer 29 = .ok (.ifCond .ne 7, 3) := by decide +kernel
theorem d_Fi_isUpNearer_32 : decode b_Fi_isUpNearer 32 = .ok (.iconst 1, 1) := by decide +kernel
theorem d_Fi_isUpNearer_33 : decode b_Fi_isUpNearer 33 = .ok (.goto 4, 3) := by decide +kernel
theorem d_Fi_isUpNearer_36 : decode b_Fi_isUpNearer 36 = .ok (.iconst 0, 1) := by decide +kernel
theorem d_Fi_isUpNearer_37 : decode b_Fi_isUpNearer 37 = .ok (.ireturn, 1) := by decide +kernel
theorem d_La_signOf_0 : decode b_La_signOf 0 = .ok (.lload_n 1, 1) := by decide +kernel
theorem d_La_signOf_1 : decode b_La_signOf 1 = .ok (.aload_n 0, 1) := by decide +kernel
theorem d_La_signOf_2 : decode b_La_signOf 2 = .ok (.getfield 29, 3) := by decide +kernel
theorem d_La_signOf_5 : decode b_La_signOf 5 = .ok (.lushr, 1) := by decide +kernel
theorem d_La_signOf_6 : decode b_La_signOf 6 = .ok (.aload_n 0, 1) := by decide +kernel
theorem d_La_signOf_7 : decode b_La_signOf 7 = .ok (.getfield 33, 3) := by decide +kernel
theorem d_La_signOf_10 : decode b_La_signOf 10 = .ok (.iconst 1, 1) := by decide +kernel
theorem d_La_signOf_11 : decode b_La_signOf 11 = .ok (.iadd, 1) := by decide +kernel
theorem d_La_signOf_12 : decode b_La_signOf 12 = .ok (.i2l, 1) := by decide +kernel
theorem d_La_signOf_13 : decode b_La_signOf 13 = .ok (.land, 1) := by decide +kernel
theorem d_La_signOf_14 : decode b_La_signOf 14 = .ok (.lconst 0, 1) := by decide +kernel
theorem d_La_signOf_15 : decode b_La_signOf 15 = .ok (.lcmp, 1) := by decide +kernel
theorem d_La_signOf_16 : decode b_La_signOf 16 = .ok (.ifCond .eq 7, 3) := by decide +kernel
theorem d_La_signOf_19 : decode b_La_signOf 19 = .ok (.iconst 1, 1) := by decide +kernel
theorem d_La_signOf_20 : decode b_La_signOf 20 = .ok (.goto 4, 3) := by decide +kernel
theorem d_La_signOf_23 : decode b_La_signOf 23 = .ok (.iconst 0, 1) := by decide +kernel
theorem d_La_signOf_24 : decode b_La_signOf 24 = .ok (.ireturn, 1) := by decide +kernel
theorem d_La_exponentOf_0 : decode b_La_exponentOf 0 = .ok (.lload_n 1, 1) := by decide +kernel
theorem d_La_exponentOf_1 : decode b_La_exponentOf 1 = .ok (.aload_n 0, 1) := by decide +kernel
theorem d_La_exponentOf_2 : decode b_La_exponentOf 2 = .ok (.getfield 29, 3) := by decide +kernel
theorem d_La_exponentOf_5 : decode b_La_exponentOf 5 = .ok (.lushr, 1) := by decide +kernel
theorem d_La_exponentOf_6 : decode b_La_exponentOf 6 = .ok (.l2i, 1) := by decide +kernel
theorem d_La_exponentOf_7 : decode b_La_exponentOf 7 = .ok (.aload_n 0, 1) := by decide +kernel
theorem d_La_exponentOf_8 : decode b_La_exponentOf 8 = .ok (.getfield 33, 3) := by decide +kernel
theorem d_La_exponentOf_11 : decode b_La_exponentOf 11 = .ok (.iand, 1) := by decide +kernel
theorem d_La_exponentOf_12 : decode b_La_exponentOf 12 = .ok (.ireturn, 1) := by decide +kernel
theorem d_La_fractionOf_0 : decode b_La_fractionOf 0 = .ok (.lload_n 1, 1) := by decide +kernel
theorem d_La_fractionOf_1 : decode b_La_fractionOf 1 = .ok (.aload_n 0, 1) := by decide +kernel
theorem d_La_fractionOf_2 : decode b_La_fractionOf 2 = .ok (.invokevirtual 42, 3) := by decide +kernel
theorem d_La_fractionOf_5 : decode b_La_fractionOf 5 = .ok (.lconst 1, 1) := by decide +kernel
theorem d_La_fractionOf_6 : decode b_La_fractionOf 6 = .ok (.lsub, 1) := by decide +kernel
theorem d_La_fractionOf_7 : decode b_La_fractionOf 7 = .ok (.land, 1) := by decide +kernel
theorem d_La_fractionOf_8 : decode b_La_fractionOf 8 = .ok (.lreturn, 1) := by decide +kernel
theorem d_La_hexFractionOf_0 : decode b_La_hexFractionOf 0 = .ok (.aload_n 0, 1) := by decide +kernel
theorem d_La_hexFractionOf_1 : decode b_La_hexFractionOf 1 = .ok (.lload_n 1, 1) := by decide +kernel
theorem d_La_hexFractionOf_2 : decode b_La_hexFractionOf 2 = .ok (.invokevirtual 46, 3) := by decide +kernel
theorem d_La_hexFractionOf_5 : decode b_La_hexFractionOf 5 = .ok (.iconst 4, 1) := by decide +kernel
theorem d_La_hexFractionOf_6 : decode b_La_hexFractionOf 6 = .ok (.aload_n 0, 1) := by decide +kernel
theorem d_La_hexFractionOf_7 : decode b_La_hexFractionOf 7 = .ok (.getfield 39, 3) := by decide +kernel
theorem d_La_hexFractionOf_10 : decode b_La_hexFractionOf 10 = .ok (.imul, 1) := by decide +kernel
theorem d_La_hexFractionOf_11 : decode b_La_hexFractionOf 11 = .ok (.aload_n 0, 1) := by decide +kernel
theorem d_La_hexFractionOf_12 : decode b_La_hexFractionOf 12 = .ok (.getfield 29, 3) := by decide +kernel
theorem d_La_hexFractionOf_15 : decode b_La_hexFractionOf 15 = .ok (.isub, 1) := by decide +kernel
theorem d_La_hexFractionOf_16 : decode b_La_hexFractionOf 16 = .ok (.lshl, 1) := by decide +kernel
theorem d_La_hexFractionOf_17 : decode b_La_hexFractionOf 17 = .ok (.lreturn, 1) := by decide +kernel
theorem d_La_hiddenOne_0 : decode b_La_hiddenOne 0 = .ok (.lconst 1, 1) := by decide +kernel
theorem d_La_hiddenOne_1 : decode b_La_hiddenOne 1 = .ok (.aload_n 0, 1) := by decide +kernel
theorem d_La_hiddenOne_2 : decode b_La_hiddenOne 2 = .ok (.getfield 29, 3) := by decide +kernel
theorem d_La_hiddenOne_5 : decode b_La_hiddenOne 5 = .ok (.lshl, 1) := by decide +kernel
theorem d_La_hiddenOne_6 : decode b_La_hiddenOne 6 = .ok (.lreturn, 1) := by decide +kernel
theorem d_La_binaryExponentOf_0 : decode b_La_binaryExponentOf 0 = .ok (.iload_n 1, 1) := by decide +kernel
theorem d_La_binaryExponentOf_1 : decode b_La_binaryExponentOf 1 = .ok (.iconst 1, 1) := by decide +kernel
theorem d_La_binaryExponentOf_2 : decode b_La_binaryExponentOf 2 = .ok (.invokestatic 50, 3) := by decide +kernel
theorem d_La_binaryExponentOf_5 : decode b_La_binaryExponentOf 5 = .ok (.aload_n 0, 1) := by decide +kernel
theorem d_La_binaryExponentOf_6 : decode b_La_binaryExponentOf 6 = .ok (.getfield 36, 3) := by decide +kernel
theorem d_La_binaryExponentOf_9 : decode b_La_binaryExponentOf 9 = .ok (.isub, 1) := by decide +kernel
theorem d_La_binaryExponentOf_10 : decode b_La_binaryExponentOf 10 = .ok (.ireturn, 1) := by decide +kernel
theorem d_La_powerOf_0 : decode b_La_powerOf 0 = .ok (.aload_n 0, 1) := by decide +kernel
theorem d_La_powerOf_1 : decode b_La_powerOf 1 = .ok (.iload_n 1, 1) := by decide +kernel
theorem d_La_powerOf_2 : decode b_La_powerOf 2 = .ok (.invokevirtual 56, 3) := by decide +kernel
theorem d_La_powerOf_5 : decode b_La_powerOf 5 = .ok (.aload_n 0, 1) := by decide +kernel
theorem d_La_powerOf_6 : decode b_La_powerOf 6 = .ok (.getfield 29, 3) := by decide +kernel
theorem d_La_powerOf_9 : decode b_La_powerOf 9 = .ok (.isub, 1) := by decide +kernel
theorem d_La_powerOf_10 : decode b_La_powerOf 10 = .ok (.ireturn, 1) := by decide +kernel
theorem d_Na_init_0 : decode b_Na_init 0 = .ok (.aload_n 0, 1) := by decide +kernel
theorem d_Na_init_1 : decode b_Na_init 1 = .ok (.invokespecial 1, 3) := by decide +kernel
theorem d_Na_init_4 : decode b_Na_init 4 = .ok (.aload_n 0, 1) := by decide +kernel
theorem d_Na_init_5 : decode b_Na_init 5 = .ok (.bipush 26, 2) := by decide +kernel
theorem d_Na_init_7 : decode b_Na_init 7 = .ok (.newarray .long, 2) := by decide +kernel
theorem d_Na_init_9 : decode b_Na_init 9 = .ok (.putfield 9, 3) := by decide +kernel
theorem d_Na_init_12 : decode b_Na_init 12 = .ok (.aload_n 0, 1) := by decide +kernel
theorem d_Na_init_13 : decode b_Na_init 13 = .ok (.iconst 0, 1) := by decide +kernel
theorem d_Na_init_14 : decode b_Na_init 14 = .ok (.putfield 13, 3) := by decide +kernel
theorem d_Na_init_17 : decode b_Na_init 17 = .ok (.return_, 1) := by decide +kernel
theorem d_Na_become_0 : decode b_Na_become 0 = .ok (.lload_n 1, 1) := by decide +kernel
theorem d_Na_become_1 : decode b_Na_become 1 = .ok (.lstore_n 3, 1) := by decide +kernel
theorem d_Na_become_2 : decode b_Na_become 2 = .ok (.iconst 0, 1) := by decide +kernel
theorem d_Na_become_3 : decode b_Na_become 3 = .ok (.istore 5, 2) := by decide +kernel
theorem d_Na_become_5 : decode b_Na_become 5 = .ok (.iload 5, 2) := by decide +kernel
theorem d_Na_become_7 : decode b_Na_become 7 = .ok (.aload_n 0, 1) := by decide +kernel
theorem d_Na_become_8 : decode b_Na_become 8 = .ok (.getfield 9, 3) := by decide +kernel
theorem d_Na_become_11 : decode b_Na_become 11 = .ok (.arraylength, 1) := by decide +kernel
theorem d_Na_become_12 : decode b_Na_become 12 = .ok (.if_icmp .ge 26, 3) := by decide +kernel
theorem d_Na_become_15 : decode b_Na_become 15 = .ok (.aload_n 0, 1) := by decide +kernel
theorem d_Na_become_16 : decode b_Na_become 16 = .ok (.getfield 9, 3) := by decide +kernel
theorem d_Na_become_19 : decode b_Na_become 19 = .ok (.iload 5, 2) := by decide +kernel
theorem d_Na_become_21 : decode b_Na_become 21 = .ok (.lload_n 3, 1) := by decide +kernel
theorem d_Na_become_22 : decode b_Na_become 22 = .ok (.ldc2_w 17, 3) := by decide +kernel
theorem d_Na_become_25 : decode b_Na_become 25 = .ok (.land, 1) := by decide +kernel
theorem d_Na_become_26 : decode b_Na_become 26 = .ok (.lastore, 1) := by decide +kernel
theorem d_Na_become_27 : decode b_Na_become 27 = .ok (.lload_n 3, 1) := by decide +kernel
theorem d_Na_become_28 : decode b_Na_become 28 = .ok (.bipush 32, 2) := by decide +kernel
theorem d_Na_become_30 : decode b_Na_become 30 = .ok (.lushr, 1) := by decide +kernel
theorem d_Na_become_31 : decode b_Na_become 31 = .ok (.lstore_n 3, 1) := by decide +kernel
theorem d_Na_become_32 : decode b_Na_become 32 = .ok (.iinc 5 1, 3) := by decide +kernel
theorem d_Na_become_35 : decode b_Na_become 35 = .ok (.goto (-30), 3) := by decide +kernel
theorem d_Na_become_38 : decode b_Na_become 38 = .ok (.aload_n 0, 1) := by decide +kernel
theorem d_Na_become_39 : decode b_Na_become 39 = .ok (.iconst 2, 1) := by decide +kernel
theorem d_Na_become_40 : decode b_Na_become 40 = .ok (.putfield 13, 3) := by decide +kernel
theorem d_Na_become_43 : decode b_Na_become 43 = .ok (.return_, 1) := by decide +kernel
theorem d_Na_times_0 : decode b_Na_times 0 = .ok (.lconst 0, 1) := by decide +kernel
theorem d_Na_times_1 : decode b_Na_times 1 = .ok (.lstore_n 3, 1) := by decide +kernel
theorem d_Na_times_2 : decode b_Na_times 2 = .ok (.iconst 0, 1) := by decide +kernel
theorem d_Na_times_3 : decode b_Na_times 3 = .ok (.istore 5, 2) := by decide +kernel
theorem d_Na_times_5 : decode b_Na_times 5 = .ok (.iload 5, 2) := by decide +kernel
theorem d_Na_times_7 : decode b_Na_times 7 = .ok (.aload_n 0, 1) := by decide +kernel
theorem d_Na_times_8 : decode b_Na_times 8 = .ok (.getfield 13, 3) := by decide +kernel
theorem d_Na_times_11 : decode b_Na_times 11 = .ok (.if_icmp .ge 51, 3) := by decide +kernel
theorem d_Na_times_14 : decode b_Na_times 14 = .ok (.iload 5, 2) := by decide +kernel
theorem d_Na_times_16 : decode b_Na_times 16 = .ok (.aload_n 0, 1) := by decide +kernel
theorem d_Na_times_17 : decode b_Na_times 17 = .ok (.getfield 9, 3) := by decide +kernel
theorem d_Na_times_20 : decode b_Na_times 20 = .ok (.arraylength, 1) := by decide +kernel
theorem d_Na_times_21 : decode b_Na_times 21 = .ok (.if_icmp .ge 41, 3) := by decide +kernel
theorem d_Na_times_24 : decode b_Na_times 24 = .ok (.aload_n 0, 1) := by decide +kernel
theorem d_Na_times_25 : decode b_Na_times 25 = .ok (.getfield 9, 3) := by decide +kernel
theorem d_Na_times_28 : decode b_Na_times 28 = .ok (.iload 5, 2) := by decide +kernel
theorem d_Na_times_30 : decode b_Na_times 30 = .ok (.laload, 1) := by decide +kernel
theorem d_Na_times_31 : decode b_Na_times 31 = .ok (.lload_n 1, 1) := by decide +kernel
theorem d_Na_times_32 : decode b_Na_times 32 = .ok (.lmul, 1) := by decide +kernel
theorem d_Na_times_33 : decode b_Na_times 33 = .ok (.lload_n 3, 1) := by decide +kernel
theorem d_Na_times_34 : decode b_Na_times 34 = .ok (.ladd, 1) := by decide +kernel
theorem d_Na_times_35 : decode b_Na_times 35 = .ok (.lstore 6, 2) := by decide +kernel
theorem d_Na_times_37 : decode b_Na_times 37 = .ok (.aload_n 0, 1) := by decide +kernel
theorem d_Na_times_38 : decode b_Na_times 38 = .ok (.getfield 9, 3) := by decide +kernel
theorem d_Na_times_41 : decode b_Na_times 41 = .ok (.iload 5, 2) := by decide +kernel
theorem d_Na_times_43 : decode b_Na_times 43 = .ok (.lload 6, 2) := by decide +kernel
theorem d_Na_times_45 : decode b_Na_times 45 = .ok (.ldc2_w 17, 3) := by decide +kernel
theorem d_Na_times_48 : decode b_Na_times 48 = .ok (.land, 1) := by decide +kernel
theorem d_Na_times_49 : decode b_Na_times 49 = .ok (.lastore, 1) := by decide +kernel
theorem d_Na_times_50 : decode b_Na_times 50 = .ok (.lload 6, 2) := by decide +kernel
theorem d_Na_times_52 : decode b_Na_times 52 = .ok (.bipush 32, 2) := by decide +kernel
theorem d_Na_times_54 : decode b_Na_times 54 = .ok (.lushr, 1) := by decide +kernel
theorem d_Na_times_55 : decode b_Na_times 55 = .ok (.lstore_n 3, 1) := by decide +kernel
theorem d_Na_times_56 : decode b_Na_times 56 = .ok (.iinc 5 1, 3) := by decide +kernel
theorem d_Na_times_59 : decode b_Na_times 59 = .ok (.goto (-54), 3) := by decide +kernel
theorem d_Na_times_62 : decode b_Na_times 62 = .ok (.lload_n 3, 1) := by decide +kernel
theorem d_Na_times_63 : decode b_Na_times 63 = .ok (.lconst 0, 1) := by decide +kernel
theorem d_Na_times_64 : decode b_Na_times 64 = .ok (.lcmp, 1) := by decide +kernel
theorem d_Na_times_65 : decode b_Na_times 65 = .ok (.ifCond .eq 42, 3) := by decide +kernel
theorem d_Na_times_68 : decode b_Na_times 68 = .ok (.aload_n 0, 1) := by decide +kernel
theorem d_Na_times_69 : decode b_Na_times 69 = .ok (.getfield 13, 3) := by decide +kernel
theorem d_Na_times_72 : decode b_Na_times 72 = .ok (.ifCond .lt 35, 3) := by decide +kernel
theorem d_Na_times_75 : decode b_Na_times 75 = .ok (.aload_n 0, 1) := by decide +kernel
theorem d_Na_times_76 : decode b_Na_times 76 = .ok (.getfield 13, 3) := by decide +kernel
theorem d_Na_times_79 : decode b_Na_times 79 = .ok (.aload_n 0, 1) := by decide +kernel
theorem d_Na_times_80 : decode b_Na_times 80 = .ok (.getfield 9, 3) := by decide +kernel
theorem d_Na_times_83 : decode b_Na_times 83 = .ok (.arraylength, 1) := by decide +kernel
theorem d_Na_times_84 : decode b_Na_times 84 = .ok (.if_icmp .ge 23, 3) := by decide +kernel
theorem d_Na_times_87 : decode b_Na_times 87 = .ok (.aload_n 0, 1) := by decide +kernel
theorem d_Na_times_88 : decode b_Na_times 88 = .ok (.getfield 9, 3) := by decide +kernel
theorem d_Na_times_91 : decode b_Na_times 91 = .ok (.aload_n 0, 1) := by decide +kernel
theorem d_Na_times_92 : decode b_Na_times 92 = .ok (.getfield 13, 3) := by decide +kernel
theorem d_Na_times_95 : decode b_Na_times 95 = .ok (.lload_n 3, 1) := by decide +kernel
theorem d_Na_times_96 : decode b_Na_times 96 = .ok (.lastore, 1) := by decide +kernel
theorem d_Na_times_97 : decode b_Na_times 97 = .ok (.aload_n 0, 1) := by decide +kernel
theorem d_Na_times_98 : decode b_Na_times 98 = .ok (.dup, 1) := by decide +kernel
theorem d_Na_times_99 : decode b_Na_times 99 = .ok (.getfield 13, 3) := by decide +kernel
theorem d_Na_times_102 : decode b_Na_times 102 = .ok (.iconst 1, 1) := by decide +kernel
theorem d_Na_times_103 : decode b_Na_times 103 = .ok (.iadd, 1) := by decide +kernel
theorem d_Na_times_104 : decode b_Na_times 104 = .ok (.putfield 13, 3) := by decide +kernel
theorem d_Na_times_107 : decode b_Na_times 107 = .ok (.return_, 1) := by decide +kernel
theorem d_Na_timesFives_0 : decode b_Na_timesFives 0 = .ok (.iload_n 1, 1) := by decide +kernel
theorem d_Na_timesFives_1 : decode b_Na_timesFives 1 = .ok (.istore_n 2, 1) := by decide +kernel
theorem d_Na_timesFives_2 : decode b_Na_timesFives 2 = .ok (.iload_n 2, 1) := by decide +kernel
theorem d_Na_timesFives_3 : decode b_Na_timesFives 3 = .ok (.ifCond .le 22, 3) := by decide +kernel
theorem d_Na_timesFives_6 : decode b_Na_timesFives 6 = .ok (.aload_n 0, 1) := by decide +kernel
theorem d_Na_timesFives_7 : decode b_Na_timesFives 7 = .ok (.iload_n 2, 1) := by decide +kernel
theorem d_Na_timesFives_8 : decode b_Na_timesFives 8 = .ok (.bipush 13, 2) := by decide +kernel
theorem d_Na_timesFives_10 : decode b_Na_timesFives 10 = .ok (.invokestatic 19, 3) := by decide +kernel
theorem d_Na_timesFives_13 : decode b_Na_timesFives 13 = .ok (.invokestatic 25, 3) := by decide +kernel
theorem d_Na_timesFives_16 : decode b_Na_timesFives 16 = .ok (.invokevirtual 29, 3) := by decide +kernel
theorem d_Na_timesFives_19 : decode b_Na_timesFives 19 = .ok (.iinc 2 (-13), 3) := by decide +kernel
theorem d_Na_timesFives_22 : decode b_Na_timesFives 22 = .ok (.goto (-20), 3) := by decide +kernel
theorem d_Na_timesFives_25 : decode b_Na_timesFives 25 = .ok (.return_, 1) := by decide +kernel
theorem d_Na_smallPowerOfFive_0 : decode b_Na_smallPowerOfFive 0 = .ok (.lconst 1, 1) := by decide +kernel
theorem d_Na_smallPowerOfFive_1 : decode b_Na_smallPowerOfFive 1 = .ok (.lstore_n 1, 1) := by decide +kernel
theorem d_Na_smallPowerOfFive_2 : decode b_Na_smallPowerOfFive 2 = .ok (.iconst 0, 1) := by decide +kernel
theorem d_Na_smallPowerOfFive_3 : decode b_Na_smallPowerOfFive 3 = .ok (.istore_n 3, 1) := by decide +kernel
theorem d_Na_smallPowerOfFive_4 : decode b_Na_smallPowerOfFive 4 = .ok (.iload_n 3, 1) := by decide +kernel
theorem d_Na_smallPowerOfFive_5 : decode b_Na_smallPowerOfFive 5 = .ok (.iload_n 0, 1) := by decide +kernel
theorem d_Na_smallPowerOfFive_6 : decode b_Na_smallPowerOfFive 6 = .ok (.if_icmp .ge 15, 3) := by decide +kernel
theorem d_Na_smallPowerOfFive_9 : decode b_Na_smallPowerOfFive 9 = .ok (.lload_n 1, 1) := by decide +kernel
theorem d_Na_smallPowerOfFive_10 : decode b_Na_smallPowerOfFive 10 = .ok (.ldc2_w 33, 3) := by decide +kernel
theorem d_Na_smallPowerOfFive_13 : decode b_Na_smallPowerOfFive 13 = .ok (.lmul, 1) := by decide +kernel
theorem d_Na_smallPowerOfFive_14 : decode b_Na_smallPowerOfFive 14 = .ok (.lstore_n 1, 1) := by decide +kernel
theorem d_Na_smallPowerOfFive_15 : decode b_Na_smallPowerOfFive 15 = .ok (.iinc 3 1, 3) := by decide +kernel
theorem d_Na_smallPowerOfFive_18 : decode b_Na_smallPowerOfFive 18 = .ok (.goto (-14), 3) := by decide +kernel
theorem d_Na_smallPowerOfFive_21 : decode b_Na_smallPowerOfFive 21 = .ok (.lload_n 1, 1) := by decide +kernel
theorem d_Na_smallPowerOfFive_22 : decode b_Na_smallPowerOfFive 22 = .ok (.lreturn, 1) := by decide +kernel
theorem d_Na_timesTwos_0 : decode b_Na_timesTwos 0 = .ok (.iload_n 1, 1) := by decide +kernel
theorem d_Na_timesTwos_1 : decode b_Na_timesTwos 1 = .ok (.istore_n 2, 1) := by decide +kernel
theorem d_Na_timesTwos_2 : decode b_Na_timesTwos 2 = .ok (.iload_n 2, 1) := by decide +kernel
theorem d_Na_timesTwos_3 : decode b_Na_timesTwos 3 = .ok (.ifCond .le 21, 3) := by decide +kernel
theorem d_Na_timesTwos_6 : decode b_Na_timesTwos 6 = .ok (.aload_n 0, 1) := by decide +kernel
theorem d_Na_timesTwos_7 : decode b_Na_timesTwos 7 = .ok (.lconst 1, 1) := by decide +kernel
theorem d_Na_timesTwos_8 : decode b_Na_timesTwos 8 = .ok (.iload_n 2, 1) := by decide +kernel
theorem d_Na_timesTwos_9 : decode b_Na_timesTwos 9 = .ok (.bipush 31, 2) := by decide +kernel
theorem d_Na_timesTwos_11 : decode b_Na_timesTwos 11 = .ok (.invokestatic 19, 3) := by decide +kernel
theorem d_Na_timesTwos_14 : decode b_Na_timesTwos 14 = .ok (.lshl, 1) := by decide +kernel
theorem d_Na_timesTwos_15 : decode b_Na_timesTwos 15 = .ok (.invokevirtual 29, 3) := by decide +kernel
theorem d_Na_timesTwos_18 : decode b_Na_timesTwos 18 = .ok (.iinc 2 (-31), 3) := by decide +kernel
theorem d_Na_timesTwos_21 : decode b_Na_timesTwos 21 = .ok (.goto (-19), 3) := by decide +kernel
theorem d_Na_timesTwos_24 : decode b_Na_timesTwos 24 = .ok (.return_, 1) := by decide +kernel
theorem d_Na_subtract_0 : decode b_Na_subtract 0 = .ok (.lconst 0, 1) := by decide +kernel
theorem d_Na_subtract_1 : decode b_Na_subtract 1 = .ok (.lstore_n 2, 1) := by decide +kernel
theorem d_Na_subtract_2 : decode b_Na_subtract 2 = .ok (.iconst 0, 1) := by decide +kernel
theorem d_Na_subtract_3 : decode b_Na_subtract 3 = .ok (.istore 4, 2) := by decide +kernel
theorem d_Na_subtract_5 : decode b_Na_subtract 5 = .ok (.iload 4, 2) := by decide +kernel
theorem d_Na_subtract_7 : decode b_Na_subtract 7 = .ok (.aload_n 0, 1) := by decide +kernel
theorem d_Na_subtract_8 : decode b_Na_subtract 8 = .ok (.getfield 13, 3) := by decide +kernel
theorem d_Na_subtract_11 : decode b_Na_subtract 11 = .ok (.if_icmp .ge 57, 3) := by decide +kernel
theorem d_Na_subtract_14 : decode b_Na_subtract 14 = .ok (.iload 4, 2) := by decide +kernel
theorem d_Na_subtract_16 : decode b_Na_subtract 16 = .ok (.aload_n 0, 1) := by decide +kernel
theorem d_Na_subtract_17 : decode b_Na_subtract 17 = .ok (.getfield 9, 3) := by decide +kernel
theorem d_Na_subtract_20 : decode b_Na_subtract 20 = .ok (.arraylength, 1) := by decide +kernel
theorem d_Na_subtract_21 : decode b_Na_subtract 21 = .ok (.if_icmp .ge 47, 3) := by decide +kernel
theorem d_Na_subtract_24 : decode b_Na_subtract 24 = .ok (.aload_n 0, 1) := by decide +kernel
theorem d_Na_subtract_25 : decode b_Na_subtract 25 = .ok (.getfield 9, 3) := by decide +kernel
theorem d_Na_subtract_28 : decode b_Na_subtract 28 = .ok (.iload 4, 2) := by decide +kernel
theorem d_Na_subtract_30 : decode b_Na_subtract 30 = .ok (.laload, 1) := by decide +kernel
theorem d_Na_subtract_31 : decode b_Na_subtract 31 = .ok (.aload_n 1, 1) := by decide +kernel
theorem d_Na_subtract_32 : decode b_Na_subtract 32 = .ok (.getfield 9, 3) := by decide +kernel
theorem d_Na_subtract_35 : decode b_Na_subtract 35 = .ok (.iload 4, 2) := by decide +kernel
theorem d_Na_subtract_37 : decode b_Na_subtract 37 = .ok (.laload, 1) := by decide +kernel
theorem d_Na_subtract_38 : decode b_Na_subtract 38 = .ok (.lsub, 1) := by decide +kernel
theorem d_Na_subtract_39 : decode b_Na_subtract 39 = .ok (.lload_n 2, 1) := by decide +kernel
theorem d_Na_subtract_40 : decode b_Na_subtract 40 = .ok (.ladd, 1) := by decide +kernel
theorem d_Na_subtract_41 : decode b_Na_subtract 41 = .ok (.lstore 5, 2) := by decide +kernel
theorem d_Na_subtract_43 : decode b_Na_subtract 43 = .ok (.aload_n 0, 1) := by decide +kernel
theorem d_Na_subtract_44 : decode b_Na_subtract 44 = .ok (.getfield 9, 3) := by decide +kernel
theorem d_Na_subtract_47 : decode b_Na_subtract 47 = .ok (.iload 4, 2) := by decide +kernel
theorem d_Na_subtract_49 : decode b_Na_subtract 49 = .ok (.lload 5, 2) := by decide +kernel
theorem d_Na_subtract_51 : decode b_Na_subtract 51 = .ok (.ldc2_w 17, 3) := by decide +kernel
theorem d_Na_subtract_54 : decode b_Na_subtract 54 = .ok (.land, 1) := by decide +kernel
theorem d_Na_subtract_55 : decode b_Na_subtract 55 = .ok (.lastore, 1) := by decide +kernel
theorem d_Na_subtract_56 : decode b_Na_subtract 56 = .ok (.lload 5, 2) := by decide +kernel
theorem d_Na_subtract_58 : decode b_Na_subtract 58 = .ok (.bipush 32, 2) := by decide +kernel
theorem d_Na_subtract_60 : decode b_Na_subtract 60 = .ok (.lshr, 1) := by decide +kernel
theorem d_Na_subtract_61 : decode b_Na_subtract 61 = .ok (.lstore_n 2, 1) := by decide +kernel
theorem d_Na_subtract_62 : decode b_Na_subtract 62 = .ok (.iinc 4 1, 3) := by decide +kernel
theorem d_Na_subtract_65 : decode b_Na_subtract 65 = .ok (.goto (-60), 3) := by decide +kernel
theorem d_Na_subtract_68 : decode b_Na_subtract 68 = .ok (.return_, 1) := by decide +kernel
theorem d_Na_compareWith_0 : decode b_Na_compareWith 0 = .ok (.aload_n 0, 1) := by decide +kernel
theorem d_Na_compareWith_1 : decode b_Na_compareWith 1 = .ok (.getfield 13, 3) := by decide +kernel
theorem d_Na_compareWith_4 : decode b_Na_compareWith 4 = .ok (.aload_n 1, 1) := by decide +kernel
theorem d_Na_compareWith_5 : decode b_Na_compareWith 5 = .ok (.getfield 13, 3) := by decide +kernel
theorem d_Na_compareWith_8 : decode b_Na_compareWith 8 = .ok (.invokestatic 35, 3) := by decide +kernel
theorem d_Na_compareWith_11 : decode b_Na_compareWith 11 = .ok (.aload_n 0, 1) := by decide +kernel
theorem d_Na_compareWith_12 : decode b_Na_compareWith 12 = .ok (.getfield 9, 3) := by decide +kernel
theorem d_Na_compareWith_15 : decode b_Na_compareWith 15 = .ok (.arraylength, 1) := by decide +kernel
theorem d_Na_compareWith_16 : decode b_Na_compareWith 16 = .ok (.invokestatic 19, 3) := by decide +kernel
theorem d_Na_compareWith_19 : decode b_Na_compareWith 19 = .ok (.istore_n 2, 1) := by decide +kernel
theorem d_Na_compareWith_20 : decode b_Na_compareWith 20 = .ok (.iload_n 2, 1) := by decide +kernel
theorem d_Na_compareWith_21 : decode b_Na_compareWith 21 = .ok (.iconst 1, 1) := by decide +kernel
theorem d_Na_compareWith_22 : decode b_Na_compareWith 22 = .ok (.isub, 1) := by decide +kernel
theorem d_Na_compareWith_23 : decode b_Na_compareWith 23 = .ok (.istore_n 3, 1) := by decide +kernel
theorem d_Na_compareWith_24 : decode b_Na_compareWith 24 = .ok (.iload_n 3, 1) := by decide +kernel
theorem d_Na_compareWith_25 : decode b_Na_compareWith 25 = .ok (.ifCond .lt 47, 3) := by decide +kernel
theorem d_Na_compareWith_28 : decode b_Na_compareWith 28 = .ok (.aload_n 0, 1) := by decide +kernel
theorem d_Na_compareWith_29 : decode b_Na_compareWith 29 = .ok (.getfield 9, 3) := by decide +kernel
theorem d_Na_compareWith_32 : decode b_Na_compareWith 32 = .ok (.iload_n 3, 1) := by decide +kernel
theorem d_Na_compareWith_33 : decode b_Na_compareWith 33 = .ok (.laload, 1) := by decide +kernel
theorem d_Na_compareWith_34 : decode b_Na_compareWith 34 = .ok (.aload_n 1, 1) := by decide +kernel
theorem d_Na_compareWith_35 : decode b_Na_compareWith 35 = .ok (.getfield 9, 3) := by decide +kernel
theorem d_Na_compareWith_38 : decode b_Na_compareWith 38 = .ok (.iload_n 3, 1) := by decide +kernel
theorem d_Na_compareWith_39 : decode b_Na_compareWith 39 = .ok (.laload, 1) := by decide +kernel
theorem d_Na_compareWith_40 : decode b_Na_compareWith 40 = .ok (.lcmp, 1) := by decide +kernel
theorem d_Na_compareWith_41 : decode b_Na_compareWith 41 = .ok (.ifCond .eq 25, 3) := by decide +kernel
theorem d_Na_compareWith_44 : decode b_Na_compareWith 44 = .ok (.aload_n 0, 1) := by decide +kernel
theorem d_Na_compareWith_45 : decode b_Na_compareWith 45 = .ok (.getfield 9, 3) := by decide +kernel
theorem d_Na_compareWith_48 : decode b_Na_compareWith 48 = .ok (.iload_n 3, 1) := by decide +kernel
theorem d_Na_compareWith_49 : decode b_Na_compareWith 49 = .ok (.laload, 1) := by decide +kernel
theorem d_Na_compareWith_50 : decode b_Na_compareWith 50 = .ok (.aload_n 1, 1) := by decide +kernel
theorem d_Na_compareWith_51 : decode b_Na_compareWith 51 = .ok (.getfield 9, 3) := by decide +kernel
theorem d_Na_compareWith_54 : decode b_Na_compareWith 54 = .ok (.iload_n 3, 1) := by decide +kernel
theorem d_Na_compareWith_55 : decode b_Na_compareWith 55 = .ok (.laload, 1) := by decide +kernel
theorem d_Na_compareWith_56 : decode b_Na_compareWith 56 = .ok (.lcmp, 1) := by decide +kernel
theorem d_Na_compareWith_57 : decode b_Na_compareWith 57 = .ok (.ifCond .ge 7, 3) := by decide +kernel
theorem d_Na_compareWith_60 : decode b_Na_compareWith 60 = .ok (.iconst (-1), 1) := by decide +kernel
theorem d_Na_compareWith_61 : decode b_Na_compareWith 61 = .ok (.goto 4, 3) := by decide +kernel
theorem d_Na_compareWith_64 : decode b_Na_compareWith 64 = .ok (.iconst 1, 1) := by decide +kernel
theorem d_Na_compareWith_65 : decode b_Na_compareWith 65 = .ok (.ireturn, 1) := by decide +kernel
theorem d_Na_compareWith_66 : decode b_Na_compareWith 66 = .ok (.iinc 3 (-1), 3) := by decide +kernel
theorem d_Na_compareWith_69 : decode b_Na_compareWith 69 = .ok (.goto (-45), 3) := by decide +kernel
theorem d_Na_compareWith_72 : decode b_Na_compareWith 72 = .ok (.iconst 0, 1) := by decide +kernel
theorem d_Na_compareWith_73 : decode b_Na_compareWith 73 = .ok (.ireturn, 1) := by decide +kernel
theorem d_Na_compareSum_0 : decode b_Na_compareSum 0 = .ok (.aload_n 0, 1) := by decide +kernel
theorem d_Na_compareSum_1 : decode b_Na_compareSum 1 = .ok (.getfield 13, 3) := by decide +kernel
theorem d_Na_compareSum_4 : decode b_Na_compareSum 4 = .ok (.aload_n 1, 1) := by decide +kernel
theorem d_Na_compareSum_5 : decode b_Na_compareSum 5 = .ok (.getfield 13, 3) := by decide +kernel
theorem d_Na_compareSum_8 : decode b_Na_compareSum 8 = .ok (.invokestatic 35, 3) := by decide +kernel
theorem d_Na_compareSum_11 : decode b_Na_compareSum 11 = .ok (.aload_n 2, 1) := by decide +kernel
theorem d_Na_compareSum_12 : decode b_Na_compareSum 12 = .ok (.getfield 13, 3) := by decide +kernel
theorem d_Na_compareSum_15 : decode b_Na_compareSum 15 = .ok (.invokestatic 35, 3) := by decide +kernel
theorem d_Na_compareSum_18 : decode b_Na_compareSum 18 = .ok (.bipush 26, 2) := by decide +kernel
theorem d_Na_compareSum_20 : decode b_Na_compareSum 20 = .ok (.invokestatic 19, 3) := by decide +kernel
theorem d_Na_compareSum_23 : decode b_Na_compareSum 23 = .ok (.istore_n 3, 1) := by decide +kernel
theorem d_Na_compareSum_24 : decode b_Na_compareSum 24 = .ok (.lconst 0, 1) := by decide +kernel
theorem d_Na_compareSum_25 : decode b_Na_compareSum 25 = .ok (.lstore 4, 2) := by decide +kernel
theorem d_Na_compareSum_27 : decode b_Na_compareSum 27 = .ok (.lconst 0, 1) := by decide +kernel
theorem d_Na_compareSum_28 : decode b_Na_compareSum 28 = .ok (.lstore 6, 2) := by decide +kernel
theorem d_Na_compareSum_30 : decode b_Na_compareSum 30 = .ok (.iconst 0, 1) := by decide +kernel
theorem d_Na_compareSum_31 : decode b_Na_compareSum 31 = .ok (.istore 8, 2) := by decide +kernel
theorem d_Na_compareSum_33 : decode b_Na_compareSum 33 = .ok (.iload 8, 2) := by decide +kernel
theorem d_Na_compareSum_35 : decode b_Na_compareSum 35 = .ok (.iload_n 3, 1) := by decide +kernel
theorem d_Na_compareSum_36 : decode b_Na_compareSum 36 = .ok (.if_icmp .ge 55, 3) := by decide +kernel
theorem d_Na_compareSum_39 : decode b_Na_compareSum 39 = .ok (.aload_n 2, 1) := by decide +kernel
theorem d_Na_compareSum_40 : decode b_Na_compareSum 40 = .ok (.getfield 9, 3) := by decide +kernel
theorem d_Na_compareSum_43 : decode b_Na_compareSum 43 = .ok (.iload 8, 2) := by decide +kernel
theorem d_Na_compareSum_45 : decode b_Na_compareSum 45 = .ok (.laload, 1) := by decide +kernel
theorem d_Na_compareSum_46 : decode b_Na_compareSum 46 = .ok (.aload_n 0, 1) := by decide +kernel
theorem d_Na_compareSum_47 : decode b_Na_compareSum 47 = .ok (.getfield 9, 3) := by decide +kernel
theorem d_Na_compareSum_50 : decode b_Na_compareSum 50 = .ok (.iload 8, 2) := by decide +kernel
theorem d_Na_compareSum_52 : decode b_Na_compareSum 52 = .ok (.laload, 1) := by decide +kernel
theorem d_Na_compareSum_53 : decode b_Na_compareSum 53 = .ok (.lsub, 1) := by decide +kernel
theorem d_Na_compareSum_54 : decode b_Na_compareSum 54 = .ok (.aload_n 1, 1) := by decide +kernel
theorem d_Na_compareSum_55 : decode b_Na_compareSum 55 = .ok (.getfield 9, 3) := by decide +kernel
theorem d_Na_compareSum_58 : decode b_Na_compareSum 58 = .ok (.iload 8, 2) := by decide +kernel
theorem d_Na_compareSum_60 : decode b_Na_compareSum 60 = .ok (.laload, 1) := by decide +kernel
theorem d_Na_compareSum_61 : decode b_Na_compareSum 61 = .ok (.lsub, 1) := by decide +kernel
theorem d_Na_compareSum_62 : decode b_Na_compareSum 62 = .ok (.lload 4, 2) := by decide +kernel
theorem d_Na_compareSum_64 : decode b_Na_compareSum 64 = .ok (.ladd, 1) := by decide +kernel
theorem d_Na_compareSum_65 : decode b_Na_compareSum 65 = .ok (.lstore 9, 2) := by decide +kernel
theorem d_Na_compareSum_67 : decode b_Na_compareSum 67 = .ok (.lload 6, 2) := by decide +kernel
theorem d_Na_compareSum_69 : decode b_Na_compareSum 69 = .ok (.lload 9, 2) := by decide +kernel
theorem d_Na_compareSum_71 : decode b_Na_compareSum 71 = .ok (.ldc2_w 17, 3) := by decide +kernel
theorem d_Na_compareSum_74 : decode b_Na_compareSum 74 = .ok (.land, 1) := by decide +kernel
theorem d_Na_compareSum_75 : decode b_Na_compareSum 75 = .ok (.lor, 1) := by decide +kernel
theorem d_Na_compareSum_76 : decode b_Na_compareSum 76 = .ok (.lstore 6, 2) := by decide +kernel
theorem d_Na_compareSum_78 : decode b_Na_compareSum 78 = .ok (.lload 9, 2) := by decide +kernel
theorem d_Na_compareSum_80 : decode b_Na_compareSum 80 = .ok (.bipush 32, 2) := by decide +kernel
theorem d_Na_compareSum_82 : decode b_Na_compareSum 82 = .ok (.lshr, 1) := by decide +kernel
theorem d_Na_compareSum_83 : decode b_Na_compareSum 83 = .ok (.lstore 4, 2) := by decide +kernel
theorem d_Na_compareSum_85 : decode b_Na_compareSum 85 = .ok (.iinc 8 1, 3) := by decide +kernel
theorem d_Na_compareSum_88 : decode b_Na_compareSum 88 = .ok (.goto (-55), 3) := by decide +kernel
theorem d_Na_compareSum_91 : decode b_Na_compareSum 91 = .ok (.lload 4, 2) := by decide +kernel
theorem d_Na_compareSum_93 : decode b_Na_compareSum 93 = .ok (.lconst 0, 1) := by decide +kernel
theorem d_Na_compareSum_94 : decode b_Na_compareSum 94 = .ok (.lcmp, 1) := by decide +kernel
theorem d_Na_compareSum_95 : decode b_Na_compareSum 95 = .ok (.ifCond .ge 5, 3) := by decide +kernel
theorem d_Na_compareSum_98 : decode b_Na_compareSum 98 = .ok (.iconst 1, 1) := by decide +kernel
theorem d_Na_compareSum_99 : decode b_Na_compareSum 99 = .ok (.ireturn, 1) := by decide +kernel
theorem d_Na_compareSum_100 : decode b_Na_compareSum 100 = .ok (.lload 6, 2) := by decide +kernel
theorem d_Na_compareSum_102 : decode b_Na_compareSum 102 = .ok (.lconst 0, 1) := by decide +kernel
theorem d_Na_compareSum_103 : decode b_Na_compareSum 103 = .ok (.lcmp, 1) := by decide +kernel
theorem d_Na_compareSum_104 : decode b_Na_compareSum 104 = .ok (.ifCond .ne 7, 3) := by decide +kernel
theorem d_Na_compareSum_107 : decode b_Na_compareSum 107 = .ok (.iconst 0, 1) := by decide +kernel
theorem d_Na_compareSum_108 : decode b_Na_compareSum 108 = .ok (.goto 4, 3) := by decide +kernel
theorem d_Na_compareSum_111 : decode b_Na_compareSum 111 = .ok (.iconst (-1), 1) := by decide +kernel
theorem d_Na_compareSum_112 : decode b_Na_compareSum 112 = .ok (.ireturn, 1) := by decide +kernel
theorem d_Te_init_0 : decode b_Te_init 0 = .ok (.aload_n 0, 1) := by decide +kernel
theorem d_Te_init_1 : decode b_Te_init 1 = .ok (.invokespecial 1, 3) := by decide +kernel
theorem d_Te_init_4 : decode b_Te_init 4 = .ok (.aload_n 0, 1) := by decide +kernel
theorem d_Te_init_5 : decode b_Te_init 5 = .ok (.bipush 64, 2) := by decide +kernel
theorem d_Te_init_7 : decode b_Te_init 7 = .ok (.newarray .char, 2) := by decide +kernel
theorem d_Te_init_9 : decode b_Te_init 9 = .ok (.putfield 9, 3) := by decide +kernel
theorem d_Te_init_12 : decode b_Te_init 12 = .ok (.aload_n 0, 1) := by decide +kernel
theorem d_Te_init_13 : decode b_Te_init 13 = .ok (.iconst 0, 1) := by decide +kernel
theorem d_Te_init_14 : decode b_Te_init 14 = .ok (.putfield 13, 3) := by decide +kernel
theorem d_Te_init_17 : decode b_Te_init 17 = .ok (.return_, 1) := by decide +kernel
theorem d_Te_clear_0 : decode b_Te_clear 0 = .ok (.aload_n 0, 1) := by decide +kernel
theorem d_Te_clear_1 : decode b_Te_clear 1 = .ok (.iconst 0, 1) := by decide +kernel
theorem d_Te_clear_2 : decode b_Te_clear 2 = .ok (.putfield 13, 3) := by decide +kernel
theorem d_Te_clear_5 : decode b_Te_clear 5 = .ok (.return_, 1) := by decide +kernel
theorem d_Te_put_0 : decode b_Te_put 0 = .ok (.aload_n 0, 1) := by decide +kernel
theorem d_Te_put_1 : decode b_Te_put 1 = .ok (.getfield 13, 3) := by decide +kernel
theorem d_Te_put_4 : decode b_Te_put 4 = .ok (.ifCond .lt 35, 3) := by decide +kernel
theorem d_Te_put_7 : decode b_Te_put 7 = .ok (.aload_n 0, 1) := by decide +kernel
theorem d_Te_put_8 : decode b_Te_put 8 = .ok (.getfield 13, 3) := by decide +kernel
theorem d_Te_put_11 : decode b_Te_put 11 = .ok (.aload_n 0, 1) := by decide +kernel
theorem d_Te_put_12 : decode b_Te_put 12 = .ok (.getfield 9, 3) := by decide +kernel
theorem d_Te_put_15 : decode b_Te_put 15 = .ok (.arraylength, 1) := by decide +kernel
theorem d_Te_put_16 : decode b_Te_put 16 = .ok (.if_icmp .ge 23, 3) := by decide +kernel
theorem d_Te_put_19 : decode b_Te_put 19 = .ok (.aload_n 0, 1) := by decide +kernel
theorem d_Te_put_20 : decode b_Te_put 20 = .ok (.getfield 9, 3) := by decide +kernel
theorem d_Te_put_23 : decode b_Te_put 23 = .ok (.aload_n 0, 1) := by decide +kernel
theorem d_Te_put_24 : decode b_Te_put 24 = .ok (.getfield 13, 3) := by decide +kernel
theorem d_Te_put_27 : decode b_Te_put 27 = .ok (.iload_n 1, 1) := by decide +kernel
theorem d_Te_put_28 : decode b_Te_put 28 = .ok (.castore, 1) := by decide +kernel
theorem d_Te_put_29 : decode b_Te_put 29 = .ok (.aload_n 0, 1) := by decide +kernel
theorem d_Te_put_30 : decode b_Te_put 30 = .ok (.dup, 1) := by decide +kernel
theorem d_Te_put_31 : decode b_Te_put 31 = .ok (.getfield 13, 3) := by decide +kernel
theorem d_Te_put_34 : decode b_Te_put 34 = .ok (.iconst 1, 1) := by decide +kernel
theorem d_Te_put_35 : decode b_Te_put 35 = .ok (.iadd, 1) := by decide +kernel
theorem d_Te_put_36 : decode b_Te_put 36 = .ok (.putfield 13, 3) := by decide +kernel
theorem d_Te_put_39 : decode b_Te_put 39 = .ok (.return_, 1) := by decide +kernel
theorem d_Te_putAll_0 : decode b_Te_putAll 0 = .ok (.iconst 0, 1) := by decide +kernel
theorem d_Te_putAll_1 : decode b_Te_putAll 1 = .ok (.istore_n 2, 1) := by decide +kernel
theorem d_Te_putAll_2 : decode b_Te_putAll 2 = .ok (.iload_n 2, 1) := by decide +kernel
theorem d_Te_putAll_3 : decode b_Te_putAll 3 = .ok (.aload_n 1, 1) := by decide +kernel
theorem d_Te_putAll_4 : decode b_Te_putAll 4 = .ok (.invokevirtual 17, 3) := by decide +kernel
theorem d_Te_putAll_7 : decode b_Te_putAll 7 = .ok (.if_icmp .ge 18, 3) := by decide +kernel
theorem d_Te_putAll_10 : decode b_Te_putAll 10 = .ok (.aload_n 0, 1) := by decide +kernel
theorem d_Te_putAll_11 : decode b_Te_putAll 11 = .ok (.aload_n 1, 1) := by decide +kernel
theorem d_Te_putAll_12 : decode b_Te_putAll 12 = .ok (.iload_n 2, 1) := by decide +kernel
theorem d_Te_putAll_13 : decode b_Te_putAll 13 = .ok (.invokevirtual 23, 3) := by decide +kernel
theorem d_Te_putAll_16 : decode b_Te_putAll 16 = .ok (.invokevirtual 27, 3) := by decide +kernel
theorem d_Te_putAll_19 : decode b_Te_putAll 19 = .ok (.iinc 2 1, 3) := by decide +kernel
theorem d_Te_putAll_22 : decode b_Te_putAll 22 = .ok (.goto (-20), 3) := by decide +kernel
theorem d_Te_putAll_25 : decode b_Te_putAll 25 = .ok (.return_, 1) := by decide +kernel
theorem d_Te_putWhole_0 : decode b_Te_putWhole 0 = .ok (.iload_n 1, 1) := by decide +kernel
theorem d_Te_putWhole_1 : decode b_Te_putWhole 1 = .ok (.ifCond .ge 9, 3) := by decide +kernel
theorem d_Te_putWhole_4 : decode b_Te_putWhole 4 = .ok (.aload_n 0, 1) := by decide +kernel
theorem d_Te_putWhole_5 : decode b_Te_putWhole 5 = .ok (.bipush 45, 2) := by decide +kernel
theorem d_Te_putWhole_7 : decode b_Te_putWhole 7 = .ok (.invokevirtual 27, 3) := by decide +kernel
theorem d_Te_putWhole_10 : decode b_Te_putWhole 10 = .ok (.iload_n 1, 1) := by decide +kernel
theorem d_Te_putWhole_11 : decode b_Te_putWhole 11 = .ok (.invokestatic 31, 3) := by decide +kernel
theorem d_Te_putWhole_14 : decode b_Te_putWhole 14 = .ok (.istore_n 2, 1) := by decide +kernel
theorem d_Te_putWhole_15 : decode b_Te_putWhole 15 = .ok (.sipush 1000, 3) := by decide +kernel
theorem d_Te_putWhole_18 : decode b_Te_putWhole 18 = .ok (.istore_n 3, 1) := by decide +kernel
theorem d_Te_putWhole_19 : decode b_Te_putWhole 19 = .ok (.iload_n 3, 1) := by decide +kernel
theorem d_Te_putWhole_20 : decode b_Te_putWhole 20 = .ok (.iconst 1, 1) := by decide +kernel
theorem d_Te_putWhole_21 : decode b_Te_putWhole 21 = .ok (.if_icmp .lt 35, 3) := by decide +kernel
theorem d_Te_putWhole_24 : decode b_Te_putWhole 24 = .ok (.iload_n 2, 1) := by decide +kernel
theorem d_Te_putWhole_25 : decode b_Te_putWhole 25 = .ok (.iload_n 3, 1) := by decide +kernel
theorem d_Te_putWhole_26 : decode b_Te_putWhole 26 = .ok (.if_icmp .ge 8, 3) := by decide +kernel
theorem d_Te_putWhole_29 : decode b_Te_putWhole 29 = .ok (.iload_n 3, 1) := by decide +kernel
theorem d_Te_putWhole_30 : decode b_Te_putWhole 30 = .ok (.iconst 1, 1) := by decide +kernel
theorem d_Te_putWhole_31 : decode b_Te_putWhole 31 = .ok (.if_icmp .ne 17, 3) := by decide +kernel
theorem d_Te_putWhole_34 : decode b_Te_putWhole 34 = .ok (.aload_n 0, 1) := by decide +kernel
theorem d_Te_putWhole_35 : decode b_Te_putWhole 35 = .ok (.bipush 48, 2) := by decide +kernel
theorem d_Te_putWhole_37 : decode b_Te_putWhole 37 = .ok (.iload_n 2, 1) := by decide +kernel
theorem d_Te_putWhole_38 : decode b_Te_putWhole 38 = .ok (.iload_n 3, 1) := by decide +kernel
theorem d_Te_putWhole_39 : decode b_Te_putWhole 39 = .ok (.idiv, 1) := by decide +kernel
theorem d_Te_putWhole_40 : decode b_Te_putWhole 40 = .ok (.bipush 10, 2) := by decide +kernel
theorem d_Te_putWhole_42 : decode b_Te_putWhole 42 = .ok (.irem, 1) := by decide +kernel
theorem d_Te_putWhole_43 : decode b_Te_putWhole 43 = .ok (.iadd, 1) := by decide +kernel
theorem d_Te_putWhole_44 : decode b_Te_putWhole 44 = .ok (.i2c, 1) := by decide +kernel
theorem d_Te_putWhole_45 : decode b_Te_putWhole 45 = .ok (.invokevirtual 27, 3) := by decide +kernel
theorem d_Te_putWhole_48 : decode b_Te_putWhole 48 = .ok (.iload_n 3, 1) := by decide +kernel
theorem d_Te_putWhole_49 : decode b_Te_putWhole 49 = .ok (.bipush 10, 2) := by decide +kernel
theorem d_Te_putWhole_51 : decode b_Te_putWhole 51 = .ok (.idiv, 1) := by decide +kernel
theorem d_Te_putWhole_52 : decode b_Te_putWhole 52 = .ok (.istore_n 3, 1) := by decide +kernel
theorem d_Te_putWhole_53 : decode b_Te_putWhole 53 = .ok (.goto (-34), 3) := by decide +kernel
theorem d_Te_putWhole_56 : decode b_Te_putWhole 56 = .ok (.return_, 1) := by decide +kernel
theorem d_Te_putHexPlaces_0 : decode b_Te_putHexPlaces 0 = .ok (.iconst 0, 1) := by decide +kernel
theorem d_Te_putHexPlaces_1 : decode b_Te_putHexPlaces 1 = .ok (.istore 4, 2) := by decide +kernel
theorem d_Te_putHexPlaces_3 : decode b_Te_putHexPlaces 3 = .ok (.iload 4, 2) := by decide +kernel
theorem d_Te_putHexPlaces_5 : decode b_Te_putHexPlaces 5 = .ok (.iload_n 3, 1) := by decide +kernel
theorem d_Te_putHexPlaces_6 : decode b_Te_putHexPlaces 6 = .ok (.iconst 1, 1) := by decide +kernel
theorem d_Te_putHexPlaces_7 : decode b_Te_putHexPlaces 7 = .ok (.isub, 1) := by decide +kernel
theorem d_Te_putHexPlaces_8 : decode b_Te_putHexPlaces 8 = .ok (.if_icmp .ge 24, 3) := by decide +kernel
theorem d_Te_putHexPlaces_11 : decode b_Te_putHexPlaces 11 = .ok (.lload_n 1, 1) := by decide +kernel
theorem d_Te_putHexPlaces_12 : decode b_Te_putHexPlaces 12 = .ok (.iconst 4, 1) := by decide +kernel
theorem d_Te_putHexPlaces_13 : decode b_Te_putHexPlaces 13 = .ok (.iload 4, 2) := by decide +kernel
theorem d_Te_putHexPlaces_15 : decode b_Te_putHexPlaces 15 = .ok (.imul, 1) := by decide +kernel
theorem d_Te_putHexPlaces_16 : decode b_Te_putHexPlaces 16 = .ok (.lushr, 1) := by decide +kernel
theorem d_Te_putHexPlaces_17 : decode b_Te_putHexPlaces 17 = .ok (.ldc2_w 37, 3) := by decide +kernel
theorem d_Te_putHexPlaces_20 : decode b_Te_putHexPlaces 20 = .ok (.land, 1) := by decide +kernel
theorem d_Te_putHexPlaces_21 : decode b_Te_putHexPlaces 21 = .ok (.lconst 0, 1) := by decide +kernel
theorem d_Te_putHexPlaces_22 : decode b_Te_putHexPlaces 22 = .ok (.lcmp, 1) := by decide +kernel
theorem d_Te_putHexPlaces_23 : decode b_Te_putHexPlaces 23 = .ok (.ifCond .ne 9, 3) := by decide +kernel
theorem d_Te_putHexPlaces_26 : decode b_Te_putHexPlaces 26 = .ok (.iinc 4 1, 3) := by decide +kernel
theorem d_Te_putHexPlaces_29 : decode b_Te_putHexPlaces 29 = .ok (.goto (-26), 3) := by decide +kernel
theorem d_Te_putHexPlaces_32 : decode b_Te_putHexPlaces 32 = .ok (.iload_n 3, 1) := by decide +kernel
theorem d_Te_putHexPlaces_33 : decode b_Te_putHexPlaces 33 = .ok (.iconst 1, 1) := by decide +kernel
theorem d_Te_putHexPlaces_34 : decode b_Te_putHexPlaces 34 = .ok (.isub, 1) := by decide +kernel
theorem d_Te_putHexPlaces_35 : decode b_Te_putHexPlaces 35 = .ok (.istore 5, 2) := by decide +kernel
theorem d_Te_putHexPlaces_37 : decode b_Te_putHexPlaces 37 = .ok (.iload 5, 2) := by decide +kernel
theorem d_Te_putHexPlaces_39 : decode b_Te_putHexPlaces 39 = .ok (.iload 4, 2) := by decide +kernel
theorem d_Te_putHexPlaces_41 : decode b_Te_putHexPlaces 41 = .ok (.if_icmp .lt 26, 3) := by decide +kernel
theorem d_Te_putHexPlaces_44 : decode b_Te_putHexPlaces 44 = .ok (.aload_n 0, 1) := by decide +kernel
theorem d_Te_putHexPlaces_45 : decode b_Te_putHexPlaces 45 = .ok (.lload_n 1, 1) := by decide +kernel
theorem d_Te_putHexPlaces_46 : decode b_Te_putHexPlaces 46 = .ok (.iconst 4, 1) := by decide +kernel
theorem d_Te_putHexPlaces_47 : decode b_Te_putHexPlaces 47 = .ok (.iload 5, 2) := by decide +kernel
theorem d_Te_putHexPlaces_49 : decode b_Te_putHexPlaces 49 = .ok (.imul, 1) := by decide +kernel
theorem d_Te_putHexPlaces_50 : decode b_Te_putHexPlaces 50 = .ok (.lushr, 1) := by decide +kernel
theorem d_Te_putHexPlaces_51 : decode b_Te_putHexPlaces 51 = .ok (.l2i, 1) := by decide +kernel
theorem d_Te_putHexPlaces_52 : decode b_Te_putHexPlaces 52 = .ok (.bipush 15, 2) := by decide +kernel
theorem d_Te_putHexPlaces_54 : decode b_Te_putHexPlaces 54 = .ok (.iand, 1) := by decide +kernel
theorem d_Te_putHexPlaces_55 : decode b_Te_putHexPlaces 55 = .ok (.invokestatic 39, 3) := by decide +kernel
theorem d_Te_putHexPlaces_58 : decode b_Te_putHexPlaces 58 = .ok (.invokevirtual 27, 3) := by decide +kernel
theorem d_Te_putHexPlaces_61 : decode b_Te_putHexPlaces 61 = .ok (.iinc 5 (-1), 3) := by decide +kernel
theorem d_Te_putHexPlaces_64 : decode b_Te_putHexPlaces 64 = .ok (.goto (-27), 3) := by decide +kernel
theorem d_Te_putHexPlaces_67 : decode b_Te_putHexPlaces 67 = .ok (.return_, 1) := by decide +kernel
theorem d_Te_codeAt_0 : decode b_Te_codeAt 0 = .ok (.iload_n 1, 1) := by decide +kernel
theorem d_Te_codeAt_1 : decode b_Te_codeAt 1 = .ok (.ifCond .lt 29, 3) := by decide +kernel
theorem d_Te_codeAt_4 : decode b_Te_codeAt 4 = .ok (.iload_n 1, 1) := by decide +kernel
theorem d_Te_codeAt_5 : decode b_Te_codeAt 5 = .ok (.aload_n 0, 1) := by decide +kernel
theorem d_Te_codeAt_6 : decode b_Te_codeAt 6 = .ok (.getfield 13, 3) := by decide +kernel
theorem d_Te_codeAt_9 : decode b_Te_codeAt 9 = .ok (.if_icmp .ge 21, 3) := by decide +kernel
theorem d_Te_codeAt_12 : decode b_Te_codeAt 12 = .ok (.iload_n 1, 1) := by decide +kernel
theorem d_Te_codeAt_13 : decode b_Te_codeAt 13 = .ok (.aload_n 0, 1) := by decide +kernel
theorem d_Te_codeAt_14 : decode b_Te_codeAt 14 = .ok (.getfield 9, 3) := by decide +kernel
theorem d_Te_codeAt_17 : decode b_Te_codeAt 17 = .ok (.arraylength, 1) := by decide +kernel
theorem d_Te_codeAt_18 : decode b_Te_codeAt 18 = .ok (.if_icmp .ge 12, 3) := by decide +kernel
theorem d_Te_codeAt_21 : decode b_Te_codeAt 21 = .ok (.aload_n 0, 1) := by decide +kernel
theorem d_Te_codeAt_22 : decode b_Te_codeAt 22 = .ok (.getfield 9, 3) := by decide +kernel
theorem d_Te_codeAt_25 : decode b_Te_codeAt 25 = .ok (.iload_n 1, 1) := by decide +kernel
theorem d_Te_codeAt_26 : decode b_Te_codeAt 26 = .ok (.caload, 1) := by decide +kernel
theorem d_Te_codeAt_27 : decode b_Te_codeAt 27 = .ok (.goto 4, 3) := by decide +kernel
theorem d_Te_codeAt_30 : decode b_Te_codeAt 30 = .ok (.iconst (-1), 1) := by decide +kernel
theorem d_Te_codeAt_31 : decode b_Te_codeAt 31 = .ok (.ireturn, 1) := by decide +kernel
theorem d_Te_hexDigit_0 : decode b_Te_hexDigit 0 = .ok (.iload_n 0, 1) := by decide +kernel
theorem d_Te_hexDigit_1 : decode b_Te_hexDigit 1 = .ok (.bipush 10, 2) := by decide +kernel
theorem d_Te_hexDigit_3 : decode b_Te_hexDigit 3 = .ok (.if_icmp .ge 10, 3) := by decide +kernel
theorem d_Te_hexDigit_6 : decode b_Te_hexDigit 6 = .ok (.bipush 48, 2) := by decide +kernel
theorem d_Te_hexDigit_8 : decode b_Te_hexDigit 8 = .ok (.iload_n 0, 1) := by decide +kernel
theorem d_Te_hexDigit_9 : decode b_Te_hexDigit 9 = .ok (.iadd, 1) := by decide +kernel
theorem d_Te_hexDigit_10 : decode b_Te_hexDigit 10 = .ok (.goto 10, 3) := by decide +kernel
theorem d_Te_hexDigit_13 : decode b_Te_hexDigit 13 = .ok (.bipush 97, 2) := by decide +kernel
theorem d_Te_hexDigit_15 : decode b_Te_hexDigit 15 = .ok (.iload_n 0, 1) := by decide +kernel
theorem d_Te_hexDigit_16 : decode b_Te_hexDigit 16 = .ok (.iadd, 1) := by decide +kernel
theorem d_Te_hexDigit_17 : decode b_Te_hexDigit 17 = .ok (.bipush 10, 2) := by decide +kernel
theorem d_Te_hexDigit_19 : decode b_Te_hexDigit 19 = .ok (.isub, 1) := by decide +kernel
theorem d_Te_hexDigit_20 : decode b_Te_hexDigit 20 = .ok (.i2c, 1) := by decide +kernel
theorem d_Te_hexDigit_21 : decode b_Te_hexDigit 21 = .ok (.ireturn, 1) := by decide +kernel
