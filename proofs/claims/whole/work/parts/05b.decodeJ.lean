theorem d_Ma_max_0 : decode b_Ma_max 0 = .ok (.iload_n 0, 1) := by decide +kernel
theorem d_Ma_max_1 : decode b_Ma_max 1 = .ok (.iload_n 1, 1) := by decide +kernel
theorem d_Ma_max_2 : decode b_Ma_max 2 = .ok (.if_icmp .lt 7, 3) := by decide +kernel
theorem d_Ma_max_5 : decode b_Ma_max 5 = .ok (.iload_n 0, 1) := by decide +kernel
theorem d_Ma_max_6 : decode b_Ma_max 6 = .ok (.goto 4, 3) := by decide +kernel
theorem d_Ma_max_9 : decode b_Ma_max 9 = .ok (.iload_n 1, 1) := by decide +kernel
theorem d_Ma_max_10 : decode b_Ma_max 10 = .ok (.ireturn, 1) := by decide +kernel
theorem d_JL_numberOfLeadingZeros_0 : decode b_JL_numberOfLeadingZeros 0 = .ok (.lload_n 0, 1) := by decide +kernel
theorem d_JL_numberOfLeadingZeros_1 : decode b_JL_numberOfLeadingZeros 1 = .ok (.bipush 32, 2) := by decide +kernel
theorem d_JL_numberOfLeadingZeros_3 : decode b_JL_numberOfLeadingZeros 3 = .ok (.lushr, 1) := by decide +kernel
theorem d_JL_numberOfLeadingZeros_4 : decode b_JL_numberOfLeadingZeros 4 = .ok (.l2i, 1) := by decide +kernel
theorem d_JL_numberOfLeadingZeros_5 : decode b_JL_numberOfLeadingZeros 5 = .ok (.istore_n 2, 1) := by decide +kernel
theorem d_JL_numberOfLeadingZeros_6 : decode b_JL_numberOfLeadingZeros 6 = .ok (.iload_n 2, 1) := by decide +kernel
theorem d_JL_numberOfLeadingZeros_7 : decode b_JL_numberOfLeadingZeros 7 = .ok (.ifCond .ne 14, 3) := by decide +kernel
theorem d_JL_numberOfLeadingZeros_10 : decode b_JL_numberOfLeadingZeros 10 = .ok (.bipush 32, 2) := by decide +kernel
theorem d_JL_numberOfLeadingZeros_12 : decode b_JL_numberOfLeadingZeros 12 = .ok (.lload_n 0, 1) := by decide +kernel
theorem d_JL_numberOfLeadingZeros_13 : decode b_JL_numberOfLeadingZeros 13 = .ok (.l2i, 1) := by decide +kernel
theorem d_JL_numberOfLeadingZeros_14 : decode b_JL_numberOfLeadingZeros 14 = .ok (.invokestatic 308, 3) := by decide +kernel
theorem d_JL_numberOfLeadingZeros_17 : decode b_JL_numberOfLeadingZeros 17 = .ok (.iadd, 1) := by decide +kernel
theorem d_JL_numberOfLeadingZeros_18 : decode b_JL_numberOfLeadingZeros 18 = .ok (.goto 7, 3) := by decide +kernel
theorem d_JL_numberOfLeadingZeros_21 : decode b_JL_numberOfLeadingZeros 21 = .ok (.iload_n 2, 1) := by decide +kernel
theorem d_JL_numberOfLeadingZeros_22 : decode b_JL_numberOfLeadingZeros 22 = .ok (.invokestatic 308, 3) := by decide +kernel
theorem d_JL_numberOfLeadingZeros_25 : decode b_JL_numberOfLeadingZeros 25 = .ok (.ireturn, 1) := by decide +kernel
theorem d_JI_numberOfLeadingZeros_0 : decode b_JI_numberOfLeadingZeros 0 = .ok (.iload_n 0, 1) := by decide +kernel
theorem d_JI_numberOfLeadingZeros_1 : decode b_JI_numberOfLeadingZeros 1 = .ok (.ifCond .gt 14, 3) := by decide +kernel
theorem d_JI_numberOfLeadingZeros_4 : decode b_JI_numberOfLeadingZeros 4 = .ok (.iload_n 0, 1) := by decide +kernel
theorem d_JI_numberOfLeadingZeros_5 : decode b_JI_numberOfLeadingZeros 5 = .ok (.ifCond .ne 8, 3) := by decide +kernel
theorem d_JI_numberOfLeadingZeros_8 : decode b_JI_numberOfLeadingZeros 8 = .ok (.bipush 32, 2) := by decide +kernel
theorem d_JI_numberOfLeadingZeros_10 : decode b_JI_numberOfLeadingZeros 10 = .ok (.goto 4, 3) := by decide +kernel
theorem d_JI_numberOfLeadingZeros_13 : decode b_JI_numberOfLeadingZeros 13 = .ok (.iconst 0, 1) := by decide +kernel
theorem d_JI_numberOfLeadingZeros_14 : decode b_JI_numberOfLeadingZeros 14 = .ok (.ireturn, 1) := by decide +kernel
theorem d_JI_numberOfLeadingZeros_15 : decode b_JI_numberOfLeadingZeros 15 = .ok (.bipush 31, 2) := by decide +kernel
theorem d_JI_numberOfLeadingZeros_17 : decode b_JI_numberOfLeadingZeros 17 = .ok (.istore_n 1, 1) := by decide +kernel
theorem d_JI_numberOfLeadingZeros_18 : decode b_JI_numberOfLeadingZeros 18 = .ok (.iload_n 0, 1) := by decide +kernel
theorem d_JI_numberOfLeadingZeros_19 : decode b_JI_numberOfLeadingZeros 19 = .ok (.ldc_w 264, 3) := by decide +kernel
theorem d_JI_numberOfLeadingZeros_22 : decode b_JI_numberOfLeadingZeros 22 = .ok (.if_icmp .lt 11, 3) := by decide +kernel
theorem d_JI_numberOfLeadingZeros_25 : decode b_JI_numberOfLeadingZeros 25 = .ok (.iinc 1 (-16), 3) := by decide +kernel
theorem d_JI_numberOfLeadingZeros_28 : decode b_JI_numberOfLeadingZeros 28 = .ok (.iload_n 0, 1) := by decide +kernel
theorem d_JI_numberOfLeadingZeros_29 : decode b_JI_numberOfLeadingZeros 29 = .ok (.bipush 16, 2) := by decide +kernel
theorem d_JI_numberOfLeadingZeros_31 : decode b_JI_numberOfLeadingZeros 31 = .ok (.iushr, 1) := by decide +kernel
theorem d_JI_numberOfLeadingZeros_32 : decode b_JI_numberOfLeadingZeros 32 = .ok (.istore_n 0, 1) := by decide +kernel
theorem d_JI_numberOfLeadingZeros_33 : decode b_JI_numberOfLeadingZeros 33 = .ok (.iload_n 0, 1) := by decide +kernel
theorem d_JI_numberOfLeadingZeros_34 : decode b_JI_numberOfLeadingZeros 34 = .ok (.sipush 256, 3) := by decide +kernel
theorem d_JI_numberOfLeadingZeros_37 : decode b_JI_numberOfLeadingZeros 37 = .ok (.if_icmp .lt 11, 3) := by decide +kernel
theorem d_JI_numberOfLeadingZeros_40 : decode b_JI_numberOfLeadingZeros 40 = .ok (.iinc 1 (-8), 3) := by decide +kernel
theorem d_JI_numberOfLeadingZeros_43 : decode b_JI_numberOfLeadingZeros 43 = .ok (.iload_n 0, 1) := by decide +kernel
theorem d_JI_numberOfLeadingZeros_44 : decode b_JI_numberOfLeadingZeros 44 = .ok (.bipush 8, 2) := by decide +kernel
theorem d_JI_numberOfLeadingZeros_46 : decode b_JI_numberOfLeadingZeros 46 = .ok (.iushr, 1) := by decide +kernel
theorem d_JI_numberOfLeadingZeros_47 : decode b_JI_numberOfLeadingZeros 47 = .ok (.istore_n 0, 1) := by decide +kernel
theorem d_JI_numberOfLeadingZeros_48 : decode b_JI_numberOfLeadingZeros 48 = .ok (.iload_n 0, 1) := by decide +kernel
theorem d_JI_numberOfLeadingZeros_49 : decode b_JI_numberOfLeadingZeros 49 = .ok (.bipush 16, 2) := by decide +kernel
theorem d_JI_numberOfLeadingZeros_51 : decode b_JI_numberOfLeadingZeros 51 = .ok (.if_icmp .lt 10, 3) := by decide +kernel
theorem d_JI_numberOfLeadingZeros_54 : decode b_JI_numberOfLeadingZeros 54 = .ok (.iinc 1 (-4), 3) := by decide +kernel
theorem d_JI_numberOfLeadingZeros_57 : decode b_JI_numberOfLeadingZeros 57 = .ok (.iload_n 0, 1) := by decide +kernel
theorem d_JI_numberOfLeadingZeros_58 : decode b_JI_numberOfLeadingZeros 58 = .ok (.iconst 4, 1) := by decide +kernel
theorem d_JI_numberOfLeadingZeros_59 : decode b_JI_numberOfLeadingZeros 59 = .ok (.iushr, 1) := by decide +kernel
theorem d_JI_numberOfLeadingZeros_60 : decode b_JI_numberOfLeadingZeros 60 = .ok (.istore_n 0, 1) := by decide +kernel
theorem d_JI_numberOfLeadingZeros_61 : decode b_JI_numberOfLeadingZeros 61 = .ok (.iload_n 0, 1) := by decide +kernel
theorem d_JI_numberOfLeadingZeros_62 : decode b_JI_numberOfLeadingZeros 62 = .ok (.iconst 4, 1) := by decide +kernel
theorem d_JI_numberOfLeadingZeros_63 : decode b_JI_numberOfLeadingZeros 63 = .ok (.if_icmp .lt 10, 3) := by decide +kernel
theorem d_JI_numberOfLeadingZeros_66 : decode b_JI_numberOfLeadingZeros 66 = .ok (.iinc 1 (-2), 3) := by decide +kernel
theorem d_JI_numberOfLeadingZeros_69 : decode b_JI_numberOfLeadingZeros 69 = .ok (.iload_n 0, 1) := by decide +kernel
theorem d_JI_numberOfLeadingZeros_70 : decode b_JI_numberOfLeadingZeros 70 = .ok (.iconst 2, 1) := by decide +kernel
theorem d_JI_numberOfLeadingZeros_71 : decode b_JI_numberOfLeadingZeros 71 = .ok (.iushr, 1) := by decide +kernel
theorem d_JI_numberOfLeadingZeros_72 : decode b_JI_numberOfLeadingZeros 72 = .ok (.istore_n 0, 1) := by decide +kernel
theorem d_JI_numberOfLeadingZeros_73 : decode b_JI_numberOfLeadingZeros 73 = .ok (.iload_n 1, 1) := by decide +kernel
theorem d_JI_numberOfLeadingZeros_74 : decode b_JI_numberOfLeadingZeros 74 = .ok (.iload_n 0, 1) := by decide +kernel
theorem d_JI_numberOfLeadingZeros_75 : decode b_JI_numberOfLeadingZeros 75 = .ok (.iconst 1, 1) := by decide +kernel
theorem d_JI_numberOfLeadingZeros_76 : decode b_JI_numberOfLeadingZeros 76 = .ok (.iushr, 1) := by decide +kernel
theorem d_JI_numberOfLeadingZeros_77 : decode b_JI_numberOfLeadingZeros 77 = .ok (.isub, 1) := by decide +kernel
theorem d_JI_numberOfLeadingZeros_78 : decode b_JI_numberOfLeadingZeros 78 = .ok (.ireturn, 1) := by decide +kernel
theorem d_Ma_min_0 : decode b_Ma_min 0 = .ok (.iload_n 0, 1) := by decide +kernel
theorem d_Ma_min_1 : decode b_Ma_min 1 = .ok (.iload_n 1, 1) := by decide +kernel
theorem d_Ma_min_2 : decode b_Ma_min 2 = .ok (.if_icmp .gt 7, 3) := by decide +kernel
theorem d_Ma_min_5 : decode b_Ma_min 5 = .ok (.iload_n 0, 1) := by decide +kernel
theorem d_Ma_min_6 : decode b_Ma_min 6 = .ok (.goto 4, 3) := by decide +kernel
theorem d_Ma_min_9 : decode b_Ma_min 9 = .ok (.iload_n 1, 1) := by decide +kernel
theorem d_Ma_min_10 : decode b_Ma_min 10 = .ok (.ireturn, 1) := by decide +kernel
theorem d_Ma_abs_0 : decode b_Ma_abs 0 = .ok (.iload_n 0, 1) := by decide +kernel
theorem d_Ma_abs_1 : decode b_Ma_abs 1 = .ok (.ifCond .ge 8, 3) := by decide +kernel
theorem d_Ma_abs_4 : decode b_Ma_abs 4 = .ok (.iload_n 0, 1) := by decide +kernel
theorem d_Ma_abs_6 : decode b_Ma_abs 6 = .ok (.goto 4, 3) := by decide +kernel
theorem d_Ma_abs_9 : decode b_Ma_abs 9 = .ok (.iload_n 0, 1) := by decide +kernel
theorem d_Ma_abs_10 : decode b_Ma_abs 10 = .ok (.ireturn, 1) := by decide +kernel
theorem d_St_length_0 : decode b_St_length 0 = .ok (.aload_n 0, 1) := by decide +kernel
theorem d_St_length_1 : decode b_St_length 1 = .ok (.getfield 9, 3) := by decide +kernel
theorem d_St_length_4 : decode b_St_length 4 = .ok (.arraylength, 1) := by decide +kernel
theorem d_St_length_5 : decode b_St_length 5 = .ok (.aload_n 0, 1) := by decide +kernel
theorem d_St_length_6 : decode b_St_length 6 = .ok (.invokevirtual 335, 3) := by decide +kernel
theorem d_St_length_9 : decode b_St_length 9 = .ok (.ishr, 1) := by decide +kernel
theorem d_St_length_10 : decode b_St_length 10 = .ok (.ireturn, 1) := by decide +kernel
theorem d_St_coder_0 : decode b_St_coder 0 = .ok (.getstatic 38, 3) := by decide +kernel
theorem d_St_coder_3 : decode b_St_coder 3 = .ok (.ifCond .eq 10, 3) := by decide +kernel
theorem d_St_coder_6 : decode b_St_coder 6 = .ok (.aload_n 0, 1) := by decide +kernel
theorem d_St_coder_7 : decode b_St_coder 7 = .ok (.getfield 15, 3) := by decide +kernel
theorem d_St_coder_10 : decode b_St_coder 10 = .ok (.goto 4, 3) := by decide +kernel
theorem d_St_coder_13 : decode b_St_coder 13 = .ok (.iconst 1, 1) := by decide +kernel
theorem d_St_coder_14 : decode b_St_coder 14 = .ok (.ireturn, 1) := by decide +kernel
theorem d_St_charAt_0 : decode b_St_charAt 0 = .ok (.aload_n 0, 1) := by decide +kernel
theorem d_St_charAt_1 : decode b_St_charAt 1 = .ok (.invokevirtual 492, 3) := by decide +kernel
theorem d_St_charAt_4 : decode b_St_charAt 4 = .ok (.ifCond .eq 12, 3) := by decide +kernel
theorem d_St_charAt_7 : decode b_St_charAt 7 = .ok (.aload_n 0, 1) := by decide +kernel
theorem d_St_charAt_8 : decode b_St_charAt 8 = .ok (.getfield 9, 3) := by decide +kernel
theorem d_St_charAt_11 : decode b_St_charAt 11 = .ok (.iload_n 1, 1) := by decide +kernel
theorem d_St_charAt_12 : decode b_St_charAt 12 = .ok (.invokestatic 495, 3) := by decide +kernel
theorem d_St_charAt_15 : decode b_St_charAt 15 = .ok (.ireturn, 1) := by decide +kernel
theorem d_St_charAt_16 : decode b_St_charAt 16 = .ok (.aload_n 0, 1) := by decide +kernel
theorem d_St_charAt_17 : decode b_St_charAt 17 = .ok (.getfield 9, 3) := by decide +kernel
theorem d_St_charAt_20 : decode b_St_charAt 20 = .ok (.iload_n 1, 1) := by decide +kernel
theorem d_St_charAt_21 : decode b_St_charAt 21 = .ok (.invokestatic 498, 3) := by decide +kernel
theorem d_St_charAt_24 : decode b_St_charAt 24 = .ok (.ireturn, 1) := by decide +kernel
theorem d_St_isLatin1_0 : decode b_St_isLatin1 0 = .ok (.getstatic 38, 3) := by decide +kernel
theorem d_St_isLatin1_3 : decode b_St_isLatin1 3 = .ok (.ifCond .eq 14, 3) := by decide +kernel
theorem d_St_isLatin1_6 : decode b_St_isLatin1 6 = .ok (.aload_n 0, 1) := by decide +kernel
theorem d_St_isLatin1_7 : decode b_St_isLatin1 7 = .ok (.getfield 15, 3) := by decide +kernel
theorem d_St_isLatin1_10 : decode b_St_isLatin1 10 = .ok (.ifCond .ne 7, 3) := by decide +kernel
theorem d_St_isLatin1_13 : decode b_St_isLatin1 13 = .ok (.iconst 1, 1) := by decide +kernel
theorem d_St_isLatin1_14 : decode b_St_isLatin1 14 = .ok (.goto 4, 3) := by decide +kernel
theorem d_St_isLatin1_17 : decode b_St_isLatin1 17 = .ok (.iconst 0, 1) := by decide +kernel
theorem d_St_isLatin1_18 : decode b_St_isLatin1 18 = .ok (.ireturn, 1) := by decide +kernel
theorem d_SL_charAt_0 : decode b_SL_charAt 0 = .ok (.iload_n 1, 1) := by decide +kernel
theorem d_SL_charAt_1 : decode b_SL_charAt 1 = .ok (.aload_n 0, 1) := by decide +kernel
theorem d_SL_charAt_2 : decode b_SL_charAt 2 = .ok (.arraylength, 1) := by decide +kernel
theorem d_SL_charAt_3 : decode b_SL_charAt 3 = .ok (.invokestatic 9, 3) := by decide +kernel
theorem d_SL_charAt_6 : decode b_SL_charAt 6 = .ok (.aload_n 0, 1) := by decide +kernel
theorem d_SL_charAt_7 : decode b_SL_charAt 7 = .ok (.iload_n 1, 1) := by decide +kernel
theorem d_SL_charAt_8 : decode b_SL_charAt 8 = .ok (.baload, 1) := by decide +kernel
theorem d_SL_charAt_9 : decode b_SL_charAt 9 = .ok (.sipush 255, 3) := by decide +kernel
theorem d_SL_charAt_12 : decode b_SL_charAt 12 = .ok (.iand, 1) := by decide +kernel
theorem d_SL_charAt_13 : decode b_SL_charAt 13 = .ok (.i2c, 1) := by decide +kernel
theorem d_SL_charAt_14 : decode b_SL_charAt 14 = .ok (.ireturn, 1) := by decide +kernel
theorem d_St_checkIndex_0 : decode b_St_checkIndex 0 = .ok (.iload_n 0, 1) := by decide +kernel
theorem d_St_checkIndex_1 : decode b_St_checkIndex 1 = .ok (.iload_n 1, 1) := by decide +kernel
theorem d_St_checkIndex_2 : decode b_St_checkIndex 2 = .ok (.getstatic 1053, 3) := by decide +kernel
theorem d_St_checkIndex_5 : decode b_St_checkIndex 5 = .ok (.invokestatic 1059, 3) := by decide +kernel
theorem d_St_checkIndex_8 : decode b_St_checkIndex 8 = .ok (.pop, 1) := by decide +kernel
theorem d_St_checkIndex_9 : decode b_St_checkIndex 9 = .ok (.return_, 1) := by decide +kernel
theorem d_Pr_checkIndex_0 : decode b_Pr_checkIndex 0 = .ok (.iload_n 0, 1) := by decide +kernel
theorem d_Pr_checkIndex_1 : decode b_Pr_checkIndex 1 = .ok (.ifCond .lt 8, 3) := by decide +kernel
theorem d_Pr_checkIndex_4 : decode b_Pr_checkIndex 4 = .ok (.iload_n 0, 1) := by decide +kernel
theorem d_Pr_checkIndex_5 : decode b_Pr_checkIndex 5 = .ok (.iload_n 1, 1) := by decide +kernel
theorem d_Pr_checkIndex_6 : decode b_Pr_checkIndex 6 = .ok (.if_icmp .lt 10, 3) := by decide +kernel
theorem d_Pr_checkIndex_9 : decode b_Pr_checkIndex 9 = .ok (.aload_n 2, 1) := by decide +kernel
theorem d_Pr_checkIndex_10 : decode b_Pr_checkIndex 10 = .ok (.iload_n 0, 1) := by decide +kernel
theorem d_Pr_checkIndex_11 : decode b_Pr_checkIndex 11 = .ok (.iload_n 1, 1) := by decide +kernel
theorem d_Pr_checkIndex_12 : decode b_Pr_checkIndex 12 = .ok (.invokestatic 95, 3) := by decide +kernel
theorem d_Pr_checkIndex_15 : decode b_Pr_checkIndex 15 = .ok (.athrow, 1) := by decide +kernel
theorem d_Pr_checkIndex_16 : decode b_Pr_checkIndex 16 = .ok (.iload_n 0, 1) := by decide +kernel
theorem d_Pr_checkIndex_17 : decode b_Pr_checkIndex 17 = .ok (.ireturn, 1) := by decide +kernel
