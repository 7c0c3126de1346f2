theorem gd_Ob_init_0 : decode gb_Ob_init 0 = .ok (.return_, 1) := by decide +kernel
theorem gd_In_compare_0 : decode gb_In_compare 0 = .ok (.iload_n 0, 1) := by decide +kernel
theorem gd_In_compare_1 : decode gb_In_compare 1 = .ok (.iload_n 1, 1) := by decide +kernel
theorem gd_In_compare_2 : decode gb_In_compare 2 = .ok (.if_icmp .ge 7, 3) := by decide +kernel
theorem gd_In_compare_5 : decode gb_In_compare 5 = .ok (.iconst (-1), 1) := by decide +kernel
theorem gd_In_compare_6 : decode gb_In_compare 6 = .ok (.goto 13, 3) := by decide +kernel
theorem gd_In_compare_9 : decode gb_In_compare 9 = .ok (.iload_n 0, 1) := by decide +kernel
theorem gd_In_compare_10 : decode gb_In_compare 10 = .ok (.iload_n 1, 1) := by decide +kernel
theorem gd_In_compare_11 : decode gb_In_compare 11 = .ok (.if_icmp .ne 7, 3) := by decide +kernel
theorem gd_In_compare_14 : decode gb_In_compare 14 = .ok (.iconst 0, 1) := by decide +kernel
theorem gd_In_compare_15 : decode gb_In_compare 15 = .ok (.goto 4, 3) := by decide +kernel
theorem gd_In_compare_18 : decode gb_In_compare 18 = .ok (.iconst 1, 1) := by decide +kernel
theorem gd_In_compare_19 : decode gb_In_compare 19 = .ok (.ireturn, 1) := by decide +kernel
theorem gd_In_numberOfLeadingZeros_0 : decode gb_In_numberOfLeadingZeros 0 = .ok (.iload_n 0, 1) := by decide +kernel
theorem gd_In_numberOfLeadingZeros_1 : decode gb_In_numberOfLeadingZeros 1 = .ok (.ifCond .gt 14, 3) := by decide +kernel
theorem gd_In_numberOfLeadingZeros_4 : decode gb_In_numberOfLeadingZeros 4 = .ok (.iload_n 0, 1) := by decide +kernel
theorem gd_In_numberOfLeadingZeros_5 : decode gb_In_numberOfLeadingZeros 5 = .ok (.ifCond .ne 8, 3) := by decide +kernel
theorem gd_In_numberOfLeadingZeros_8 : decode gb_In_numberOfLeadingZeros 8 = .ok (.bipush 32, 2) := by decide +kernel
theorem gd_In_numberOfLeadingZeros_10 : decode gb_In_numberOfLeadingZeros 10 = .ok (.goto 4, 3) := by decide +kernel
theorem gd_In_numberOfLeadingZeros_13 : decode gb_In_numberOfLeadingZeros 13 = .ok (.iconst 0, 1) := by decide +kernel
theorem gd_In_numberOfLeadingZeros_14 : decode gb_In_numberOfLeadingZeros 14 = .ok (.ireturn, 1) := by decide +kernel
theorem gd_In_numberOfLeadingZeros_15 : decode gb_In_numberOfLeadingZeros 15 = .ok (.bipush 31, 2) := by decide +kernel
theorem gd_In_numberOfLeadingZeros_17 : decode gb_In_numberOfLeadingZeros 17 = .ok (.istore_n 1, 1) := by decide +kernel
theorem gd_In_numberOfLeadingZeros_18 : decode gb_In_numberOfLeadingZeros 18 = .ok (.iload_n 0, 1) := by decide +kernel
theorem gd_In_numberOfLeadingZeros_19 : decode gb_In_numberOfLeadingZeros 19 = .ok (.ldc_w 264, 3) := by decide +kernel
theorem gd_In_numberOfLeadingZeros_22 : decode gb_In_numberOfLeadingZeros 22 = .ok (.if_icmp .lt 11, 3) := by decide +kernel
theorem gd_In_numberOfLeadingZeros_25 : decode gb_In_numberOfLeadingZeros 25 = .ok (.iinc 1 (-16), 3) := by decide +kernel
theorem gd_In_numberOfLeadingZeros_28 : decode gb_In_numberOfLeadingZeros 28 = .ok (.iload_n 0, 1) := by decide +kernel
theorem gd_In_numberOfLeadingZeros_29 : decode gb_In_numberOfLeadingZeros 29 = .ok (.bipush 16, 2) := by decide +kernel
theorem gd_In_numberOfLeadingZeros_31 : decode gb_In_numberOfLeadingZeros 31 = .ok (.iushr, 1) := by decide +kernel
theorem gd_In_numberOfLeadingZeros_32 : decode gb_In_numberOfLeadingZeros 32 = .ok (.istore_n 0, 1) := by decide +kernel
theorem gd_In_numberOfLeadingZeros_33 : decode gb_In_numberOfLeadingZeros 33 = .ok (.iload_n 0, 1) := by decide +kernel
theorem gd_In_numberOfLeadingZeros_34 : decode gb_In_numberOfLeadingZeros 34 = .ok (.sipush 256, 3) := by decide +kernel
theorem gd_In_numberOfLeadingZeros_37 : decode gb_In_numberOfLeadingZeros 37 = .ok (.if_icmp .lt 11, 3) := by decide +kernel
theorem gd_In_numberOfLeadingZeros_40 : decode gb_In_numberOfLeadingZeros 40 = .ok (.iinc 1 (-8), 3) := by decide +kernel
theorem gd_In_numberOfLeadingZeros_43 : decode gb_In_numberOfLeadingZeros 43 = .ok (.iload_n 0, 1) := by decide +kernel
theorem gd_In_numberOfLeadingZeros_44 : decode gb_In_numberOfLeadingZeros 44 = .ok (.bipush 8, 2) := by decide +kernel
theorem gd_In_numberOfLeadingZeros_46 : decode gb_In_numberOfLeadingZeros 46 = .ok (.iushr, 1) := by decide +kernel
theorem gd_In_numberOfLeadingZeros_47 : decode gb_In_numberOfLeadingZeros 47 = .ok (.istore_n 0, 1) := by decide +kernel
theorem gd_In_numberOfLeadingZeros_48 : decode gb_In_numberOfLeadingZeros 48 = .ok (.iload_n 0, 1) := by decide +kernel
theorem gd_In_numberOfLeadingZeros_49 : decode gb_In_numberOfLeadingZeros 49 = .ok (.bipush 16, 2) := by decide +kernel
theorem gd_In_numberOfLeadingZeros_51 : decode gb_In_numberOfLeadingZeros 51 = .ok (.if_icmp .lt 10, 3) := by decide +kernel
theorem gd_In_numberOfLeadingZeros_54 : decode gb_In_numberOfLeadingZeros 54 = .ok (.iinc 1 (-4), 3) := by decide +kernel
theorem gd_In_numberOfLeadingZeros_57 : decode gb_In_numberOfLeadingZeros 57 = .ok (.iload_n 0, 1) := by decide +kernel
theorem gd_In_numberOfLeadingZeros_58 : decode gb_In_numberOfLeadingZeros 58 = .ok (.iconst 4, 1) := by decide +kernel
theorem gd_In_numberOfLeadingZeros_59 : decode gb_In_numberOfLeadingZeros 59 = .ok (.iushr, 1) := by decide +kernel
theorem gd_In_numberOfLeadingZeros_60 : decode gb_In_numberOfLeadingZeros 60 = .ok (.istore_n 0, 1) := by decide +kernel
theorem gd_In_numberOfLeadingZeros_61 : decode gb_In_numberOfLeadingZeros 61 = .ok (.iload_n 0, 1) := by decide +kernel
theorem gd_In_numberOfLeadingZeros_62 : decode gb_In_numberOfLeadingZeros 62 = .ok (.iconst 4, 1) := by decide +kernel
theorem gd_In_numberOfLeadingZeros_63 : decode gb_In_numberOfLeadingZeros 63 = .ok (.if_icmp .lt 10, 3) := by decide +kernel
theorem gd_In_numberOfLeadingZeros_66 : decode gb_In_numberOfLeadingZeros 66 = .ok (.iinc 1 (-2), 3) := by decide +kernel
theorem gd_In_numberOfLeadingZeros_69 : decode gb_In_numberOfLeadingZeros 69 = .ok (.iload_n 0, 1) := by decide +kernel
theorem gd_In_numberOfLeadingZeros_70 : decode gb_In_numberOfLeadingZeros 70 = .ok (.iconst 2, 1) := by decide +kernel
theorem gd_In_numberOfLeadingZeros_71 : decode gb_In_numberOfLeadingZeros 71 = .ok (.iushr, 1) := by decide +kernel
theorem gd_In_numberOfLeadingZeros_72 : decode gb_In_numberOfLeadingZeros 72 = .ok (.istore_n 0, 1) := by decide +kernel
theorem gd_In_numberOfLeadingZeros_73 : decode gb_In_numberOfLeadingZeros 73 = .ok (.iload_n 1, 1) := by decide +kernel
theorem gd_In_numberOfLeadingZeros_74 : decode gb_In_numberOfLeadingZeros 74 = .ok (.iload_n 0, 1) := by decide +kernel
theorem gd_In_numberOfLeadingZeros_75 : decode gb_In_numberOfLeadingZeros 75 = .ok (.iconst 1, 1) := by decide +kernel
theorem gd_In_numberOfLeadingZeros_76 : decode gb_In_numberOfLeadingZeros 76 = .ok (.iushr, 1) := by decide +kernel
theorem gd_In_numberOfLeadingZeros_77 : decode gb_In_numberOfLeadingZeros 77 = .ok (.isub, 1) := by decide +kernel
theorem gd_In_numberOfLeadingZeros_78 : decode gb_In_numberOfLeadingZeros 78 = .ok (.ireturn, 1) := by decide +kernel
theorem gd_Lo_compare_0 : decode gb_Lo_compare 0 = .ok (.lload_n 0, 1) := by decide +kernel
theorem gd_Lo_compare_1 : decode gb_Lo_compare 1 = .ok (.lload_n 2, 1) := by decide +kernel
theorem gd_Lo_compare_2 : decode gb_Lo_compare 2 = .ok (.lcmp, 1) := by decide +kernel
theorem gd_Lo_compare_3 : decode gb_Lo_compare 3 = .ok (.ifCond .ge 7, 3) := by decide +kernel
theorem gd_Lo_compare_6 : decode gb_Lo_compare 6 = .ok (.iconst (-1), 1) := by decide +kernel
theorem gd_Lo_compare_7 : decode gb_Lo_compare 7 = .ok (.goto 14, 3) := by decide +kernel
theorem gd_Lo_compare_10 : decode gb_Lo_compare 10 = .ok (.lload_n 0, 1) := by decide +kernel
theorem gd_Lo_compare_11 : decode gb_Lo_compare 11 = .ok (.lload_n 2, 1) := by decide +kernel
theorem gd_Lo_compare_12 : decode gb_Lo_compare 12 = .ok (.lcmp, 1) := by decide +kernel
theorem gd_Lo_compare_13 : decode gb_Lo_compare 13 = .ok (.ifCond .ne 7, 3) := by decide +kernel
theorem gd_Lo_compare_16 : decode gb_Lo_compare 16 = .ok (.iconst 0, 1) := by decide +kernel
theorem gd_Lo_compare_17 : decode gb_Lo_compare 17 = .ok (.goto 4, 3) := by decide +kernel
theorem gd_Lo_compare_20 : decode gb_Lo_compare 20 = .ok (.iconst 1, 1) := by decide +kernel
theorem gd_Lo_compare_21 : decode gb_Lo_compare 21 = .ok (.ireturn, 1) := by decide +kernel
theorem gd_Lo_numberOfLeadingZeros_0 : decode gb_Lo_numberOfLeadingZeros 0 = .ok (.lload_n 0, 1) := by decide +kernel
theorem gd_Lo_numberOfLeadingZeros_1 : decode gb_Lo_numberOfLeadingZeros 1 = .ok (.bipush 32, 2) := by decide +kernel
theorem gd_Lo_numberOfLeadingZeros_3 : decode gb_Lo_numberOfLeadingZeros 3 = .ok (.lushr, 1) := by decide +kernel
theorem gd_Lo_numberOfLeadingZeros_4 : decode gb_Lo_numberOfLeadingZeros 4 = .ok (.l2i, 1) := by decide +kernel
theorem gd_Lo_numberOfLeadingZeros_5 : decode gb_Lo_numberOfLeadingZeros 5 = .ok (.istore_n 2, 1) := by decide +kernel
theorem gd_Lo_numberOfLeadingZeros_6 : decode gb_Lo_numberOfLeadingZeros 6 = .ok (.iload_n 2, 1) := by decide +kernel
theorem gd_Lo_numberOfLeadingZeros_7 : decode gb_Lo_numberOfLeadingZeros 7 = .ok (.ifCond .ne 14, 3) := by decide +kernel
theorem gd_Lo_numberOfLeadingZeros_10 : decode gb_Lo_numberOfLeadingZeros 10 = .ok (.bipush 32, 2) := by decide +kernel
theorem gd_Lo_numberOfLeadingZeros_12 : decode gb_Lo_numberOfLeadingZeros 12 = .ok (.lload_n 0, 1) := by decide +kernel
theorem gd_Lo_numberOfLeadingZeros_13 : decode gb_Lo_numberOfLeadingZeros 13 = .ok (.l2i, 1) := by decide +kernel
theorem gd_Lo_numberOfLeadingZeros_14 : decode gb_Lo_numberOfLeadingZeros 14 = .ok (.invokestatic 308, 3) := by decide +kernel
theorem gd_Lo_numberOfLeadingZeros_17 : decode gb_Lo_numberOfLeadingZeros 17 = .ok (.iadd, 1) := by decide +kernel
theorem gd_Lo_numberOfLeadingZeros_18 : decode gb_Lo_numberOfLeadingZeros 18 = .ok (.goto 7, 3) := by decide +kernel
theorem gd_Lo_numberOfLeadingZeros_21 : decode gb_Lo_numberOfLeadingZeros 21 = .ok (.iload_n 2, 1) := by decide +kernel
theorem gd_Lo_numberOfLeadingZeros_22 : decode gb_Lo_numberOfLeadingZeros 22 = .ok (.invokestatic 308, 3) := by decide +kernel
theorem gd_Lo_numberOfLeadingZeros_25 : decode gb_Lo_numberOfLeadingZeros 25 = .ok (.ireturn, 1) := by decide +kernel
theorem gd_Ma_max_0 : decode gb_Ma_max 0 = .ok (.iload_n 0, 1) := by decide +kernel
theorem gd_Ma_max_1 : decode gb_Ma_max 1 = .ok (.iload_n 1, 1) := by decide +kernel
theorem gd_Ma_max_2 : decode gb_Ma_max 2 = .ok (.if_icmp .lt 7, 3) := by decide +kernel
theorem gd_Ma_max_5 : decode gb_Ma_max 5 = .ok (.iload_n 0, 1) := by decide +kernel
theorem gd_Ma_max_6 : decode gb_Ma_max 6 = .ok (.goto 4, 3) := by decide +kernel
theorem gd_Ma_max_9 : decode gb_Ma_max 9 = .ok (.iload_n 1, 1) := by decide +kernel
theorem gd_Ma_max_10 : decode gb_Ma_max 10 = .ok (.ireturn, 1) := by decide +kernel
theorem gd_Ma_min_0 : decode gb_Ma_min 0 = .ok (.iload_n 0, 1) := by decide +kernel
theorem gd_Ma_min_1 : decode gb_Ma_min 1 = .ok (.iload_n 1, 1) := by decide +kernel
theorem gd_Ma_min_2 : decode gb_Ma_min 2 = .ok (.if_icmp .gt 7, 3) := by decide +kernel
theorem gd_Ma_min_5 : decode gb_Ma_min 5 = .ok (.iload_n 0, 1) := by decide +kernel
theorem gd_Ma_min_6 : decode gb_Ma_min 6 = .ok (.goto 4, 3) := by decide +kernel
theorem gd_Ma_min_9 : decode gb_Ma_min 9 = .ok (.iload_n 1, 1) := by decide +kernel
theorem gd_Ma_min_10 : decode gb_Ma_min 10 = .ok (.ireturn, 1) := by decide +kernel
theorem gd_Bk_init_0 : decode gb_Bk_init 0 = .ok (.aload_n 0, 1) := by decide +kernel
theorem gd_Bk_init_1 : decode gb_Bk_init 1 = .ok (.invokespecial 1, 3) := by decide +kernel
theorem gd_Bk_init_4 : decode gb_Bk_init 4 = .ok (.aload_n 0, 1) := by decide +kernel
theorem gd_Bk_init_5 : decode gb_Bk_init 5 = .ok (.new 7, 3) := by decide +kernel
theorem gd_Bk_init_8 : decode gb_Bk_init 8 = .ok (.dup, 1) := by decide +kernel
theorem gd_Bk_init_9 : decode gb_Bk_init 9 = .ok (.invokespecial 9, 3) := by decide +kernel
theorem gd_Bk_init_12 : decode gb_Bk_init 12 = .ok (.putfield 10, 3) := by decide +kernel
theorem gd_Bk_init_15 : decode gb_Bk_init 15 = .ok (.aload_n 0, 1) := by decide +kernel
theorem gd_Bk_init_16 : decode gb_Bk_init 16 = .ok (.bipush 100, 2) := by decide +kernel
theorem gd_Bk_init_18 : decode gb_Bk_init 18 = .ok (.anewarray 16, 3) := by decide +kernel
theorem gd_Bk_init_21 : decode gb_Bk_init 21 = .ok (.putfield 18, 3) := by decide +kernel
theorem gd_Bk_init_24 : decode gb_Bk_init 24 = .ok (.iconst 0, 1) := by decide +kernel
theorem gd_Bk_init_25 : decode gb_Bk_init 25 = .ok (.istore_n 1, 1) := by decide +kernel
theorem gd_Bk_init_26 : decode gb_Bk_init 26 = .ok (.iload_n 1, 1) := by decide +kernel
theorem gd_Bk_init_27 : decode gb_Bk_init 27 = .ok (.aload_n 0, 1) := by decide +kernel
theorem gd_Bk_init_28 : decode gb_Bk_init 28 = .ok (.getfield 18, 3) := by decide +kernel
theorem gd_Bk_init_31 : decode gb_Bk_init 31 = .ok (.arraylength, 1) := by decide +kernel
theorem gd_Bk_init_32 : decode gb_Bk_init 32 = .ok (.if_icmp .ge 22, 3) := by decide +kernel
theorem gd_Bk_init_35 : decode gb_Bk_init 35 = .ok (.aload_n 0, 1) := by decide +kernel
theorem gd_Bk_init_36 : decode gb_Bk_init 36 = .ok (.getfield 18, 3) := by decide +kernel
theorem gd_Bk_init_39 : decode gb_Bk_init 39 = .ok (.iload_n 1, 1) := by decide +kernel
theorem gd_Bk_init_40 : decode gb_Bk_init 40 = .ok (.new 16, 3) := by decide +kernel
theorem gd_Bk_init_43 : decode gb_Bk_init 43 = .ok (.dup, 1) := by decide +kernel
theorem gd_Bk_init_44 : decode gb_Bk_init 44 = .ok (.invokespecial 22, 3) := by decide +kernel
theorem gd_Bk_init_47 : decode gb_Bk_init 47 = .ok (.aastore, 1) := by decide +kernel
theorem gd_Bk_init_48 : decode gb_Bk_init 48 = .ok (.iinc 1 1, 3) := by decide +kernel
theorem gd_Bk_init_51 : decode gb_Bk_init 51 = .ok (.goto (-25), 3) := by decide +kernel
theorem gd_Bk_init_54 : decode gb_Bk_init 54 = .ok (.aload_n 0, 1) := by decide +kernel
theorem gd_Bk_init_55 : decode gb_Bk_init 55 = .ok (.new 23, 3) := by decide +kernel
theorem gd_Bk_init_58 : decode gb_Bk_init 58 = .ok (.dup, 1) := by decide +kernel
theorem gd_Bk_init_59 : decode gb_Bk_init 59 = .ok (.invokespecial 25, 3) := by decide +kernel
theorem gd_Bk_init_62 : decode gb_Bk_init 62 = .ok (.putfield 26, 3) := by decide +kernel
theorem gd_Bk_init_65 : decode gb_Bk_init 65 = .ok (.aload_n 0, 1) := by decide +kernel
theorem gd_Bk_init_66 : decode gb_Bk_init 66 = .ok (.bipush 6, 2) := by decide +kernel
theorem gd_Bk_init_68 : decode gb_Bk_init 68 = .ok (.newarray .int, 2) := by decide +kernel
theorem gd_Bk_init_70 : decode gb_Bk_init 70 = .ok (.putfield 30, 3) := by decide +kernel
theorem gd_Bk_init_73 : decode gb_Bk_init 73 = .ok (.iconst 0, 1) := by decide +kernel
theorem gd_Bk_init_74 : decode gb_Bk_init 74 = .ok (.istore_n 1, 1) := by decide +kernel
theorem gd_Bk_init_75 : decode gb_Bk_init 75 = .ok (.iload_n 1, 1) := by decide +kernel
theorem gd_Bk_init_76 : decode gb_Bk_init 76 = .ok (.aload_n 0, 1) := by decide +kernel
theorem gd_Bk_init_77 : decode gb_Bk_init 77 = .ok (.getfield 30, 3) := by decide +kernel
theorem gd_Bk_init_80 : decode gb_Bk_init 80 = .ok (.arraylength, 1) := by decide +kernel
theorem gd_Bk_init_81 : decode gb_Bk_init 81 = .ok (.if_icmp .ge 16, 3) := by decide +kernel
theorem gd_Bk_init_84 : decode gb_Bk_init 84 = .ok (.aload_n 0, 1) := by decide +kernel
theorem gd_Bk_init_85 : decode gb_Bk_init 85 = .ok (.getfield 30, 3) := by decide +kernel
theorem gd_Bk_init_88 : decode gb_Bk_init 88 = .ok (.iload_n 1, 1) := by decide +kernel
theorem gd_Bk_init_89 : decode gb_Bk_init 89 = .ok (.iconst (-1), 1) := by decide +kernel
theorem gd_Bk_init_90 : decode gb_Bk_init 90 = .ok (.iastore, 1) := by decide +kernel
theorem gd_Bk_init_91 : decode gb_Bk_init 91 = .ok (.iinc 1 1, 3) := by decide +kernel
theorem gd_Bk_init_94 : decode gb_Bk_init 94 = .ok (.goto (-19), 3) := by decide +kernel
theorem gd_Bk_init_97 : decode gb_Bk_init 97 = .ok (.aload_n 0, 1) := by decide +kernel
theorem gd_Bk_init_98 : decode gb_Bk_init 98 = .ok (.iconst 0, 1) := by decide +kernel
theorem gd_Bk_init_99 : decode gb_Bk_init 99 = .ok (.putfield 34, 3) := by decide +kernel
theorem gd_Bk_init_102 : decode gb_Bk_init 102 = .ok (.return_, 1) := by decide +kernel
theorem gd_Bk_type_0 : decode gb_Bk_type 0 = .ok (.iload_n 3, 1) := by decide +kernel
theorem gd_Bk_type_1 : decode gb_Bk_type 1 = .ok (.iconst 1, 1) := by decide +kernel
theorem gd_Bk_type_2 : decode gb_Bk_type 2 = .ok (.if_icmp .lt 17, 3) := by decide +kernel
theorem gd_Bk_type_5 : decode gb_Bk_type 5 = .ok (.iload_n 3, 1) := by decide +kernel
theorem gd_Bk_type_6 : decode gb_Bk_type 6 = .ok (.bipush 8, 2) := by decide +kernel
theorem gd_Bk_type_8 : decode gb_Bk_type 8 = .ok (.if_icmp .gt 11, 3) := by decide +kernel
theorem gd_Bk_type_11 : decode gb_Bk_type 11 = .ok (.lload_n 1, 1) := by decide +kernel
theorem gd_Bk_type_12 : decode gb_Bk_type 12 = .ok (.iload_n 3, 1) := by decide +kernel
theorem gd_Bk_type_13 : decode gb_Bk_type 13 = .ok (.invokestatic 38, 3) := by decide +kernel
theorem gd_Bk_type_16 : decode gb_Bk_type 16 = .ok (.ifCond .ne 5, 3) := by decide +kernel
theorem gd_Bk_type_19 : decode gb_Bk_type 19 = .ok (.iconst (-1), 1) := by decide +kernel
theorem gd_Bk_type_20 : decode gb_Bk_type 20 = .ok (.ireturn, 1) := by decide +kernel
theorem gd_Bk_type_21 : decode gb_Bk_type 21 = .ok (.aload_n 0, 1) := by decide +kernel
theorem gd_Bk_type_22 : decode gb_Bk_type 22 = .ok (.getfield 10, 3) := by decide +kernel
theorem gd_Bk_type_25 : decode gb_Bk_type 25 = .ok (.getfield 42, 3) := by decide +kernel
theorem gd_Bk_type_28 : decode gb_Bk_type 28 = .ok (.iload_n 3, 1) := by decide +kernel
theorem gd_Bk_type_29 : decode gb_Bk_type 29 = .ok (.iadd, 1) := by decide +kernel
theorem gd_Bk_type_30 : decode gb_Bk_type 30 = .ok (.bipush 16, 2) := by decide +kernel
theorem gd_Bk_type_32 : decode gb_Bk_type 32 = .ok (.if_icmp .le 6, 3) := by decide +kernel
theorem gd_Bk_type_35 : decode gb_Bk_type 35 = .ok (.bipush (-3), 2) := by decide +kernel
theorem gd_Bk_type_37 : decode gb_Bk_type 37 = .ok (.ireturn, 1) := by decide +kernel
theorem gd_Bk_type_38 : decode gb_Bk_type 38 = .ok (.iload_n 3, 1) := by decide +kernel
theorem gd_Bk_type_39 : decode gb_Bk_type 39 = .ok (.iconst 1, 1) := by decide +kernel
theorem gd_Bk_type_40 : decode gb_Bk_type 40 = .ok (.isub, 1) := by decide +kernel
theorem gd_Bk_type_41 : decode gb_Bk_type 41 = .ok (.istore 4, 2) := by decide +kernel
theorem gd_Bk_type_43 : decode gb_Bk_type 43 = .ok (.iload 4, 2) := by decide +kernel
theorem gd_Bk_type_45 : decode gb_Bk_type 45 = .ok (.ifCond .lt 22, 3) := by decide +kernel
theorem gd_Bk_type_48 : decode gb_Bk_type 48 = .ok (.aload_n 0, 1) := by decide +kernel
theorem gd_Bk_type_49 : decode gb_Bk_type 49 = .ok (.getfield 10, 3) := by decide +kernel
theorem gd_Bk_type_52 : decode gb_Bk_type 52 = .ok (.lload_n 1, 1) := by decide +kernel
theorem gd_Bk_type_53 : decode gb_Bk_type 53 = .ok (.iload 4, 2) := by decide +kernel
theorem gd_Bk_type_55 : decode gb_Bk_type 55 = .ok (.invokestatic 45, 3) := by decide +kernel
theorem gd_Bk_type_58 : decode gb_Bk_type 58 = .ok (.invokevirtual 49, 3) := by decide +kernel
theorem gd_Bk_type_61 : decode gb_Bk_type 61 = .ok (.iinc 4 (-1), 3) := by decide +kernel
theorem gd_Bk_type_64 : decode gb_Bk_type 64 = .ok (.goto (-21), 3) := by decide +kernel
theorem gd_Bk_type_67 : decode gb_Bk_type 67 = .ok (.aload_n 0, 1) := by decide +kernel
theorem gd_Bk_type_68 : decode gb_Bk_type 68 = .ok (.getfield 10, 3) := by decide +kernel
theorem gd_Bk_type_71 : decode gb_Bk_type 71 = .ok (.getfield 42, 3) := by decide +kernel
theorem gd_Bk_type_74 : decode gb_Bk_type 74 = .ok (.ireturn, 1) := by decide +kernel
theorem gd_Bk_clear_0 : decode gb_Bk_clear 0 = .ok (.aload_n 0, 1) := by decide +kernel
theorem gd_Bk_clear_1 : decode gb_Bk_clear 1 = .ok (.getfield 10, 3) := by decide +kernel
theorem gd_Bk_clear_4 : decode gb_Bk_clear 4 = .ok (.getfield 42, 3) := by decide +kernel
theorem gd_Bk_clear_7 : decode gb_Bk_clear 7 = .ok (.istore_n 1, 1) := by decide +kernel
theorem gd_Bk_clear_8 : decode gb_Bk_clear 8 = .ok (.aload_n 0, 1) := by decide +kernel
theorem gd_Bk_clear_9 : decode gb_Bk_clear 9 = .ok (.getfield 10, 3) := by decide +kernel
theorem gd_Bk_clear_12 : decode gb_Bk_clear 12 = .ok (.invokevirtual 53, 3) := by decide +kernel
theorem gd_Bk_clear_15 : decode gb_Bk_clear 15 = .ok (.iload_n 1, 1) := by decide +kernel
theorem gd_Bk_clear_16 : decode gb_Bk_clear 16 = .ok (.ireturn, 1) := by decide +kernel
theorem gd_Bk_add_0 : decode gb_Bk_add 0 = .ok (.iload_n 1, 1) := by decide +kernel
theorem gd_Bk_add_1 : decode gb_Bk_add 1 = .ok (.invokestatic 56, 3) := by decide +kernel
theorem gd_Bk_add_4 : decode gb_Bk_add 4 = .ok (.ifCond .eq 21, 3) := by decide +kernel
theorem gd_Bk_add_7 : decode gb_Bk_add 7 = .ok (.aload_n 0, 1) := by decide +kernel
theorem gd_Bk_add_8 : decode gb_Bk_add 8 = .ok (.getfield 10, 3) := by decide +kernel
theorem gd_Bk_add_11 : decode gb_Bk_add 11 = .ok (.getfield 42, 3) := by decide +kernel
theorem gd_Bk_add_14 : decode gb_Bk_add 14 = .ok (.ifCond .le 11, 3) := by decide +kernel
theorem gd_Bk_add_17 : decode gb_Bk_add 17 = .ok (.aload_n 0, 1) := by decide +kernel
theorem gd_Bk_add_18 : decode gb_Bk_add 18 = .ok (.iload_n 1, 1) := by decide +kernel
theorem gd_Bk_add_19 : decode gb_Bk_add 19 = .ok (.invokevirtual 60, 3) := by decide +kernel
theorem gd_Bk_add_22 : decode gb_Bk_add 22 = .ok (.goto 4, 3) := by decide +kernel
theorem gd_Bk_add_25 : decode gb_Bk_add 25 = .ok (.iconst (-1), 1) := by decide +kernel
theorem gd_Bk_add_26 : decode gb_Bk_add 26 = .ok (.istore_n 2, 1) := by decide +kernel
theorem gd_Bk_add_27 : decode gb_Bk_add 27 = .ok (.aload_n 0, 1) := by decide +kernel
theorem gd_Bk_add_28 : decode gb_Bk_add 28 = .ok (.getfield 10, 3) := by decide +kernel
theorem gd_Bk_add_31 : decode gb_Bk_add 31 = .ok (.invokevirtual 53, 3) := by decide +kernel
theorem gd_Bk_add_34 : decode gb_Bk_add 34 = .ok (.iload_n 2, 1) := by decide +kernel
theorem gd_Bk_add_35 : decode gb_Bk_add 35 = .ok (.ireturn, 1) := by decide +kernel
theorem gd_Bk_drop_0 : decode gb_Bk_drop 0 = .ok (.aload_n 0, 1) := by decide +kernel
theorem gd_Bk_drop_1 : decode gb_Bk_drop 1 = .ok (.iload_n 1, 1) := by decide +kernel
theorem gd_Bk_drop_2 : decode gb_Bk_drop 2 = .ok (.invokevirtual 64, 3) := by decide +kernel
theorem gd_Bk_drop_5 : decode gb_Bk_drop 5 = .ok (.astore_n 2, 1) := by decide +kernel
theorem gd_Bk_drop_6 : decode gb_Bk_drop 6 = .ok (.aload_n 2, 1) := by decide +kernel
theorem gd_Bk_drop_7 : decode gb_Bk_drop 7 = .ok (.ifnull 10, 3) := by decide +kernel
theorem gd_Bk_drop_10 : decode gb_Bk_drop 10 = .ok (.aload_n 2, 1) := by decide +kernel
theorem gd_Bk_drop_11 : decode gb_Bk_drop 11 = .ok (.getfield 68, 3) := by decide +kernel
theorem gd_Bk_drop_14 : decode gb_Bk_drop 14 = .ok (.ifCond .ne 5, 3) := by decide +kernel
theorem gd_Bk_drop_17 : decode gb_Bk_drop 17 = .ok (.iconst (-1), 1) := by decide +kernel
theorem gd_Bk_drop_18 : decode gb_Bk_drop 18 = .ok (.ireturn, 1) := by decide +kernel
theorem gd_Bk_drop_19 : decode gb_Bk_drop 19 = .ok (.aload_n 2, 1) := by decide +kernel
theorem gd_Bk_drop_20 : decode gb_Bk_drop 20 = .ok (.dup, 1) := by decide +kernel
theorem gd_Bk_drop_21 : decode gb_Bk_drop 21 = .ok (.getfield 68, 3) := by decide +kernel
theorem gd_Bk_drop_24 : decode gb_Bk_drop 24 = .ok (.iconst 1, 1) := by decide +kernel
theorem gd_Bk_drop_25 : decode gb_Bk_drop 25 = .ok (.isub, 1) := by decide +kernel
theorem gd_Bk_drop_26 : decode gb_Bk_drop 26 = .ok (.putfield 68, 3) := by decide +kernel
theorem gd_Bk_drop_29 : decode gb_Bk_drop 29 = .ok (.aload_n 2, 1) := by decide +kernel
theorem gd_Bk_drop_30 : decode gb_Bk_drop 30 = .ok (.invokevirtual 71, 3) := by decide +kernel
theorem gd_Bk_drop_33 : decode gb_Bk_drop 33 = .ok (.ifCond .ne 16, 3) := by decide +kernel
theorem gd_Bk_drop_36 : decode gb_Bk_drop 36 = .ok (.aload_n 0, 1) := by decide +kernel
theorem gd_Bk_drop_37 : decode gb_Bk_drop 37 = .ok (.aload_n 2, 1) := by decide +kernel
theorem gd_Bk_drop_38 : decode gb_Bk_drop 38 = .ok (.aload_n 0, 1) := by decide +kernel
theorem gd_Bk_drop_39 : decode gb_Bk_drop 39 = .ok (.getfield 26, 3) := by decide +kernel
theorem gd_Bk_drop_42 : decode gb_Bk_drop 42 = .ok (.iload_n 1, 1) := by decide +kernel
theorem gd_Bk_drop_43 : decode gb_Bk_drop 43 = .ok (.invokevirtual 75, 3) := by decide +kernel
theorem gd_Bk_drop_46 : decode gb_Bk_drop 46 = .ok (.invokevirtual 78, 3) := by decide +kernel
theorem gd_Bk_drop_49 : decode gb_Bk_drop 49 = .ok (.aload_n 2, 1) := by decide +kernel
theorem gd_Bk_drop_50 : decode gb_Bk_drop 50 = .ok (.getfield 68, 3) := by decide +kernel
theorem gd_Bk_drop_53 : decode gb_Bk_drop 53 = .ok (.ireturn, 1) := by decide +kernel
theorem gd_Bk_find_0 : decode gb_Bk_find 0 = .ok (.iload_n 1, 1) := by decide +kernel
theorem gd_Bk_find_1 : decode gb_Bk_find 1 = .ok (.invokestatic 56, 3) := by decide +kernel
theorem gd_Bk_find_4 : decode gb_Bk_find 4 = .ok (.ifCond .ne 5, 3) := by decide +kernel
theorem gd_Bk_find_7 : decode gb_Bk_find 7 = .ok (.iconst (-1), 1) := by decide +kernel
theorem gd_Bk_find_8 : decode gb_Bk_find 8 = .ok (.ireturn, 1) := by decide +kernel
theorem gd_Bk_find_9 : decode gb_Bk_find 9 = .ok (.aload_n 0, 1) := by decide +kernel
theorem gd_Bk_find_10 : decode gb_Bk_find 10 = .ok (.getfield 26, 3) := by decide +kernel
theorem gd_Bk_find_13 : decode gb_Bk_find 13 = .ok (.aload_n 0, 1) := by decide +kernel
theorem gd_Bk_find_14 : decode gb_Bk_find 14 = .ok (.iload_n 1, 1) := by decide +kernel
theorem gd_Bk_find_15 : decode gb_Bk_find 15 = .ok (.invokevirtual 82, 3) := by decide +kernel
theorem gd_Bk_find_18 : decode gb_Bk_find 18 = .ok (.invokevirtual 85, 3) := by decide +kernel
theorem gd_Bk_find_21 : decode gb_Bk_find 21 = .ok (.istore_n 2, 1) := by decide +kernel
theorem gd_Bk_find_22 : decode gb_Bk_find 22 = .ok (.aload_n 0, 1) := by decide +kernel
theorem gd_Bk_find_23 : decode gb_Bk_find 23 = .ok (.iload_n 2, 1) := by decide +kernel
theorem gd_Bk_find_24 : decode gb_Bk_find 24 = .ok (.iload_n 1, 1) := by decide +kernel
theorem gd_Bk_find_25 : decode gb_Bk_find 25 = .ok (.invokevirtual 88, 3) := by decide +kernel
theorem gd_Bk_find_28 : decode gb_Bk_find 28 = .ok (.ifCond .eq 7, 3) := by decide +kernel
theorem gd_Bk_find_31 : decode gb_Bk_find 31 = .ok (.iload_n 2, 1) := by decide +kernel
theorem gd_Bk_find_32 : decode gb_Bk_find 32 = .ok (.goto 5, 3) := by decide +kernel
theorem gd_Bk_find_35 : decode gb_Bk_find 35 = .ok (.bipush (-2), 2) := by decide +kernel
theorem gd_Bk_find_37 : decode gb_Bk_find 37 = .ok (.ireturn, 1) := by decide +kernel
theorem gd_Bk_term_0 : decode gb_Bk_term 0 = .ok (.aload_n 0, 1) := by decide +kernel
theorem gd_Bk_term_1 : decode gb_Bk_term 1 = .ok (.iload_n 1, 1) := by decide +kernel
theorem gd_Bk_term_2 : decode gb_Bk_term 2 = .ok (.invokevirtual 64, 3) := by decide +kernel
theorem gd_Bk_term_5 : decode gb_Bk_term 5 = .ok (.astore_n 3, 1) := by decide +kernel
theorem gd_Bk_term_6 : decode gb_Bk_term 6 = .ok (.aload_n 3, 1) := by decide +kernel
theorem gd_Bk_term_7 : decode gb_Bk_term 7 = .ok (.ifnull 7, 3) := by decide +kernel
theorem gd_Bk_term_10 : decode gb_Bk_term 10 = .ok (.iload_n 2, 1) := by decide +kernel
theorem gd_Bk_term_11 : decode gb_Bk_term 11 = .ok (.ifCond .ge 5, 3) := by decide +kernel
theorem gd_Bk_term_14 : decode gb_Bk_term 14 = .ok (.iconst (-1), 1) := by decide +kernel
theorem gd_Bk_term_15 : decode gb_Bk_term 15 = .ok (.ireturn, 1) := by decide +kernel
theorem gd_Bk_term_16 : decode gb_Bk_term 16 = .ok (.iload_n 2, 1) := by decide +kernel
theorem gd_Bk_term_17 : decode gb_Bk_term 17 = .ok (.tableswitch 45 0 2 #[27, 32, 37], 27) := by decide +kernel
theorem gd_Bk_term_44 : decode gb_Bk_term 44 = .ok (.aload_n 3, 1) := by decide +kernel
theorem gd_Bk_term_45 : decode gb_Bk_term 45 = .ok (.getfield 92, 3) := by decide +kernel
theorem gd_Bk_term_48 : decode gb_Bk_term 48 = .ok (.ireturn, 1) := by decide +kernel
theorem gd_Bk_term_49 : decode gb_Bk_term 49 = .ok (.aload_n 3, 1) := by decide +kernel
theorem gd_Bk_term_50 : decode gb_Bk_term 50 = .ok (.getfield 68, 3) := by decide +kernel
theorem gd_Bk_term_53 : decode gb_Bk_term 53 = .ok (.ireturn, 1) := by decide +kernel
theorem gd_Bk_term_54 : decode gb_Bk_term 54 = .ok (.aload_n 3, 1) := by decide +kernel
theorem gd_Bk_term_55 : decode gb_Bk_term 55 = .ok (.getfield 95, 3) := by decide +kernel
theorem gd_Bk_term_58 : decode gb_Bk_term 58 = .ok (.getfield 42, 3) := by decide +kernel
theorem gd_Bk_term_61 : decode gb_Bk_term 61 = .ok (.ireturn, 1) := by decide +kernel
theorem gd_Bk_term_62 : decode gb_Bk_term 62 = .ok (.iload_n 2, 1) := by decide +kernel
theorem gd_Bk_term_63 : decode gb_Bk_term 63 = .ok (.iconst 3, 1) := by decide +kernel
theorem gd_Bk_term_64 : decode gb_Bk_term 64 = .ok (.isub, 1) := by decide +kernel
theorem gd_Bk_term_65 : decode gb_Bk_term 65 = .ok (.aload_n 3, 1) := by decide +kernel
theorem gd_Bk_term_66 : decode gb_Bk_term 66 = .ok (.getfield 95, 3) := by decide +kernel
theorem gd_Bk_term_69 : decode gb_Bk_term 69 = .ok (.getfield 42, 3) := by decide +kernel
theorem gd_Bk_term_72 : decode gb_Bk_term 72 = .ok (.if_icmp .ge 16, 3) := by decide +kernel
theorem gd_Bk_term_75 : decode gb_Bk_term 75 = .ok (.aload_n 3, 1) := by decide +kernel
theorem gd_Bk_term_76 : decode gb_Bk_term 76 = .ok (.getfield 95, 3) := by decide +kernel
theorem gd_Bk_term_79 : decode gb_Bk_term 79 = .ok (.iload_n 2, 1) := by decide +kernel
theorem gd_Bk_term_80 : decode gb_Bk_term 80 = .ok (.iconst 3, 1) := by decide +kernel
theorem gd_Bk_term_81 : decode gb_Bk_term 81 = .ok (.isub, 1) := by decide +kernel
theorem gd_Bk_term_82 : decode gb_Bk_term 82 = .ok (.invokevirtual 98, 3) := by decide +kernel
theorem gd_Bk_term_85 : decode gb_Bk_term 85 = .ok (.goto 4, 3) := by decide +kernel
theorem gd_Bk_term_88 : decode gb_Bk_term 88 = .ok (.iconst (-1), 1) := by decide +kernel
theorem gd_Bk_term_89 : decode gb_Bk_term 89 = .ok (.ireturn, 1) := by decide +kernel
theorem gd_Bk_at_0 : decode gb_Bk_at 0 = .ok (.aload_n 0, 1) := by decide +kernel
theorem gd_Bk_at_1 : decode gb_Bk_at 1 = .ok (.getfield 26, 3) := by decide +kernel
theorem gd_Bk_at_4 : decode gb_Bk_at 4 = .ok (.iload_n 1, 1) := by decide +kernel
theorem gd_Bk_at_5 : decode gb_Bk_at 5 = .ok (.invokevirtual 85, 3) := by decide +kernel
theorem gd_Bk_at_8 : decode gb_Bk_at 8 = .ok (.istore_n 2, 1) := by decide +kernel
theorem gd_Bk_at_9 : decode gb_Bk_at 9 = .ok (.iload_n 2, 1) := by decide +kernel
theorem gd_Bk_at_10 : decode gb_Bk_at 10 = .ok (.iconst (-1), 1) := by decide +kernel
theorem gd_Bk_at_11 : decode gb_Bk_at 11 = .ok (.if_icmp .ne 8, 3) := by decide +kernel
theorem gd_Bk_at_14 : decode gb_Bk_at 14 = .ok (.bipush (-2), 2) := by decide +kernel
theorem gd_Bk_at_16 : decode gb_Bk_at 16 = .ok (.goto 4, 3) := by decide +kernel
theorem gd_Bk_at_19 : decode gb_Bk_at 19 = .ok (.iload_n 2, 1) := by decide +kernel
theorem gd_Bk_at_20 : decode gb_Bk_at 20 = .ok (.ireturn, 1) := by decide +kernel
theorem gd_Bk_place_0 : decode gb_Bk_place 0 = .ok (.aload_n 0, 1) := by decide +kernel
theorem gd_Bk_place_1 : decode gb_Bk_place 1 = .ok (.iload_n 1, 1) := by decide +kernel
theorem gd_Bk_place_2 : decode gb_Bk_place 2 = .ok (.invokevirtual 64, 3) := by decide +kernel
theorem gd_Bk_place_5 : decode gb_Bk_place 5 = .ok (.ifnonnull 7, 3) := by decide +kernel
theorem gd_Bk_place_8 : decode gb_Bk_place 8 = .ok (.iconst (-1), 1) := by decide +kernel
theorem gd_Bk_place_9 : decode gb_Bk_place 9 = .ok (.goto 11, 3) := by decide +kernel
theorem gd_Bk_place_12 : decode gb_Bk_place 12 = .ok (.aload_n 0, 1) := by decide +kernel
theorem gd_Bk_place_13 : decode gb_Bk_place 13 = .ok (.getfield 26, 3) := by decide +kernel
theorem gd_Bk_place_16 : decode gb_Bk_place 16 = .ok (.iload_n 1, 1) := by decide +kernel
theorem gd_Bk_place_17 : decode gb_Bk_place 17 = .ok (.invokevirtual 75, 3) := by decide +kernel
theorem gd_Bk_place_20 : decode gb_Bk_place 20 = .ok (.ireturn, 1) := by decide +kernel
theorem gd_Bk_begins_0 : decode gb_Bk_begins 0 = .ok (.iload_n 1, 1) := by decide +kernel
theorem gd_Bk_begins_1 : decode gb_Bk_begins 1 = .ok (.invokestatic 56, 3) := by decide +kernel
theorem gd_Bk_begins_4 : decode gb_Bk_begins 4 = .ok (.ifCond .ne 5, 3) := by decide +kernel
theorem gd_Bk_begins_7 : decode gb_Bk_begins 7 = .ok (.iconst (-1), 1) := by decide +kernel
theorem gd_Bk_begins_8 : decode gb_Bk_begins 8 = .ok (.ireturn, 1) := by decide +kernel
theorem gd_Bk_begins_9 : decode gb_Bk_begins 9 = .ok (.iconst 0, 1) := by decide +kernel
theorem gd_Bk_begins_10 : decode gb_Bk_begins 10 = .ok (.istore_n 2, 1) := by decide +kernel
theorem gd_Bk_begins_11 : decode gb_Bk_begins 11 = .ok (.iconst 0, 1) := by decide +kernel
theorem gd_Bk_begins_12 : decode gb_Bk_begins 12 = .ok (.istore_n 3, 1) := by decide +kernel
theorem gd_Bk_begins_13 : decode gb_Bk_begins 13 = .ok (.iload_n 3, 1) := by decide +kernel
theorem gd_Bk_begins_14 : decode gb_Bk_begins 14 = .ok (.bipush 100, 2) := by decide +kernel
theorem gd_Bk_begins_16 : decode gb_Bk_begins 16 = .ok (.if_icmp .ge 48, 3) := by decide +kernel
theorem gd_Bk_begins_19 : decode gb_Bk_begins 19 = .ok (.aload_n 0, 1) := by decide +kernel
theorem gd_Bk_begins_20 : decode gb_Bk_begins 20 = .ok (.iload_n 3, 1) := by decide +kernel
theorem gd_Bk_begins_21 : decode gb_Bk_begins 21 = .ok (.invokevirtual 64, 3) := by decide +kernel
theorem gd_Bk_begins_24 : decode gb_Bk_begins 24 = .ok (.astore 4, 2) := by decide +kernel
theorem gd_Bk_begins_26 : decode gb_Bk_begins 26 = .ok (.aload 4, 2) := by decide +kernel
theorem gd_Bk_begins_28 : decode gb_Bk_begins 28 = .ok (.ifnull 30, 3) := by decide +kernel
theorem gd_Bk_begins_31 : decode gb_Bk_begins 31 = .ok (.aload 4, 2) := by decide +kernel
theorem gd_Bk_begins_33 : decode gb_Bk_begins 33 = .ok (.getfield 92, 3) := by decide +kernel
theorem gd_Bk_begins_36 : decode gb_Bk_begins 36 = .ok (.iload_n 1, 1) := by decide +kernel
theorem gd_Bk_begins_37 : decode gb_Bk_begins 37 = .ok (.if_icmp .ne 21, 3) := by decide +kernel
theorem gd_Bk_begins_40 : decode gb_Bk_begins 40 = .ok (.aload 4, 2) := by decide +kernel
theorem gd_Bk_begins_42 : decode gb_Bk_begins 42 = .ok (.getfield 95, 3) := by decide +kernel
theorem gd_Bk_begins_45 : decode gb_Bk_begins 45 = .ok (.aload_n 0, 1) := by decide +kernel
theorem gd_Bk_begins_46 : decode gb_Bk_begins 46 = .ok (.getfield 10, 3) := by decide +kernel
theorem gd_Bk_begins_49 : decode gb_Bk_begins 49 = .ok (.invokevirtual 101, 3) := by decide +kernel
theorem gd_Bk_begins_52 : decode gb_Bk_begins 52 = .ok (.ifCond .eq 6, 3) := by decide +kernel
theorem gd_Bk_begins_55 : decode gb_Bk_begins 55 = .ok (.iinc 2 1, 3) := by decide +kernel
theorem gd_Bk_begins_58 : decode gb_Bk_begins 58 = .ok (.iinc 3 1, 3) := by decide +kernel
theorem gd_Bk_begins_61 : decode gb_Bk_begins 61 = .ok (.goto (-48), 3) := by decide +kernel
theorem gd_Bk_begins_64 : decode gb_Bk_begins 64 = .ok (.iload_n 2, 1) := by decide +kernel
theorem gd_Bk_begins_65 : decode gb_Bk_begins 65 = .ok (.ireturn, 1) := by decide +kernel
theorem gd_Bk_from_0 : decode gb_Bk_from 0 = .ok (.iload_n 1, 1) := by decide +kernel
theorem gd_Bk_from_1 : decode gb_Bk_from 1 = .ok (.invokestatic 56, 3) := by decide +kernel
theorem gd_Bk_from_4 : decode gb_Bk_from 4 = .ok (.ifCond .eq 11, 3) := by decide +kernel
theorem gd_Bk_from_7 : decode gb_Bk_from 7 = .ok (.aload_n 0, 1) := by decide +kernel
theorem gd_Bk_from_8 : decode gb_Bk_from 8 = .ok (.iload_n 1, 1) := by decide +kernel
theorem gd_Bk_from_9 : decode gb_Bk_from 9 = .ok (.invokevirtual 82, 3) := by decide +kernel
theorem gd_Bk_from_12 : decode gb_Bk_from 12 = .ok (.goto 4, 3) := by decide +kernel
theorem gd_Bk_from_15 : decode gb_Bk_from 15 = .ok (.iconst (-1), 1) := by decide +kernel
theorem gd_Bk_from_16 : decode gb_Bk_from 16 = .ok (.ireturn, 1) := by decide +kernel
theorem gd_Bk_version_0 : decode gb_Bk_version 0 = .ok (.aload_n 0, 1) := by decide +kernel
theorem gd_Bk_version_1 : decode gb_Bk_version 1 = .ok (.iconst (-1), 1) := by decide +kernel
theorem gd_Bk_version_2 : decode gb_Bk_version 2 = .ok (.invokevirtual 105, 3) := by decide +kernel
theorem gd_Bk_version_5 : decode gb_Bk_version 5 = .ok (.istore_n 1, 1) := by decide +kernel
theorem gd_Bk_version_6 : decode gb_Bk_version 6 = .ok (.iload_n 1, 1) := by decide +kernel
theorem gd_Bk_version_7 : decode gb_Bk_version 7 = .ok (.iconst (-1), 1) := by decide +kernel
theorem gd_Bk_version_8 : decode gb_Bk_version 8 = .ok (.if_icmp .ne 6, 3) := by decide +kernel
theorem gd_Bk_version_11 : decode gb_Bk_version 11 = .ok (.bipush (-3), 2) := by decide +kernel
theorem gd_Bk_version_13 : decode gb_Bk_version 13 = .ok (.ireturn, 1) := by decide +kernel
theorem gd_Bk_version_14 : decode gb_Bk_version 14 = .ok (.iconst 0, 1) := by decide +kernel
theorem gd_Bk_version_15 : decode gb_Bk_version 15 = .ok (.istore_n 2, 1) := by decide +kernel
theorem gd_Bk_version_16 : decode gb_Bk_version 16 = .ok (.iload_n 2, 1) := by decide +kernel
theorem gd_Bk_version_17 : decode gb_Bk_version 17 = .ok (.bipush 100, 2) := by decide +kernel
theorem gd_Bk_version_19 : decode gb_Bk_version 19 = .ok (.if_icmp .ge 31, 3) := by decide +kernel
theorem gd_Bk_version_22 : decode gb_Bk_version 22 = .ok (.aload_n 0, 1) := by decide +kernel
theorem gd_Bk_version_23 : decode gb_Bk_version 23 = .ok (.iload_n 2, 1) := by decide +kernel
theorem gd_Bk_version_24 : decode gb_Bk_version 24 = .ok (.invokevirtual 64, 3) := by decide +kernel
theorem gd_Bk_version_27 : decode gb_Bk_version 27 = .ok (.astore_n 3, 1) := by decide +kernel
theorem gd_Bk_version_28 : decode gb_Bk_version 28 = .ok (.aload_n 3, 1) := by decide +kernel
theorem gd_Bk_version_29 : decode gb_Bk_version 29 = .ok (.ifnull 15, 3) := by decide +kernel
theorem gd_Bk_version_32 : decode gb_Bk_version 32 = .ok (.aload_n 3, 1) := by decide +kernel
theorem gd_Bk_version_33 : decode gb_Bk_version 33 = .ok (.getfield 68, 3) := by decide +kernel
theorem gd_Bk_version_36 : decode gb_Bk_version 36 = .ok (.ifCond .le 8, 3) := by decide +kernel
theorem gd_Bk_version_39 : decode gb_Bk_version 39 = .ok (.aload_n 3, 1) := by decide +kernel
theorem gd_Bk_version_40 : decode gb_Bk_version 40 = .ok (.iload_n 1, 1) := by decide +kernel
theorem gd_Bk_version_41 : decode gb_Bk_version 41 = .ok (.invokevirtual 108, 3) := by decide +kernel
theorem gd_Bk_version_44 : decode gb_Bk_version 44 = .ok (.iinc 2 1, 3) := by decide +kernel
theorem gd_Bk_version_47 : decode gb_Bk_version 47 = .ok (.goto (-31), 3) := by decide +kernel
theorem gd_Bk_version_50 : decode gb_Bk_version 50 = .ok (.aload_n 0, 1) := by decide +kernel
theorem gd_Bk_version_51 : decode gb_Bk_version 51 = .ok (.getfield 30, 3) := by decide +kernel
theorem gd_Bk_version_54 : decode gb_Bk_version 54 = .ok (.iload_n 1, 1) := by decide +kernel
theorem gd_Bk_version_55 : decode gb_Bk_version 55 = .ok (.aload_n 0, 1) := by decide +kernel
theorem gd_Bk_version_56 : decode gb_Bk_version 56 = .ok (.getfield 34, 3) := by decide +kernel
theorem gd_Bk_version_59 : decode gb_Bk_version 59 = .ok (.iastore, 1) := by decide +kernel
theorem gd_Bk_version_60 : decode gb_Bk_version 60 = .ok (.aload_n 0, 1) := by decide +kernel
theorem gd_Bk_version_61 : decode gb_Bk_version 61 = .ok (.dup, 1) := by decide +kernel
theorem gd_Bk_version_62 : decode gb_Bk_version 62 = .ok (.getfield 34, 3) := by decide +kernel
theorem gd_Bk_version_65 : decode gb_Bk_version 65 = .ok (.iconst 1, 1) := by decide +kernel
theorem gd_Bk_version_66 : decode gb_Bk_version 66 = .ok (.iadd, 1) := by decide +kernel
theorem gd_Bk_version_67 : decode gb_Bk_version 67 = .ok (.putfield 34, 3) := by decide +kernel
theorem gd_Bk_version_70 : decode gb_Bk_version 70 = .ok (.aload_n 0, 1) := by decide +kernel
theorem gd_Bk_version_71 : decode gb_Bk_version 71 = .ok (.getfield 30, 3) := by decide +kernel
theorem gd_Bk_version_74 : decode gb_Bk_version 74 = .ok (.iload_n 1, 1) := by decide +kernel
theorem gd_Bk_version_75 : decode gb_Bk_version 75 = .ok (.iaload, 1) := by decide +kernel
theorem gd_Bk_version_76 : decode gb_Bk_version 76 = .ok (.ireturn, 1) := by decide +kernel
theorem gd_Bk_release_0 : decode gb_Bk_release 0 = .ok (.aload_n 0, 1) := by decide +kernel
theorem gd_Bk_release_1 : decode gb_Bk_release 1 = .ok (.iload_n 1, 1) := by decide +kernel
theorem gd_Bk_release_2 : decode gb_Bk_release 2 = .ok (.invokevirtual 111, 3) := by decide +kernel
theorem gd_Bk_release_5 : decode gb_Bk_release 5 = .ok (.istore_n 2, 1) := by decide +kernel
theorem gd_Bk_release_6 : decode gb_Bk_release 6 = .ok (.iload_n 2, 1) := by decide +kernel
theorem gd_Bk_release_7 : decode gb_Bk_release 7 = .ok (.iconst (-1), 1) := by decide +kernel
theorem gd_Bk_release_8 : decode gb_Bk_release 8 = .ok (.if_icmp .ne 5, 3) := by decide +kernel
theorem gd_Bk_release_11 : decode gb_Bk_release 11 = .ok (.iconst (-1), 1) := by decide +kernel
theorem gd_Bk_release_12 : decode gb_Bk_release 12 = .ok (.ireturn, 1) := by decide +kernel
theorem gd_Bk_release_13 : decode gb_Bk_release 13 = .ok (.aload_n 0, 1) := by decide +kernel
theorem gd_Bk_release_14 : decode gb_Bk_release 14 = .ok (.getfield 30, 3) := by decide +kernel
theorem gd_Bk_release_17 : decode gb_Bk_release 17 = .ok (.iload_n 2, 1) := by decide +kernel
theorem gd_Bk_release_18 : decode gb_Bk_release 18 = .ok (.iconst (-1), 1) := by decide +kernel
theorem gd_Bk_release_19 : decode gb_Bk_release 19 = .ok (.iastore, 1) := by decide +kernel
theorem gd_Bk_release_20 : decode gb_Bk_release 20 = .ok (.iconst 0, 1) := by decide +kernel
theorem gd_Bk_release_21 : decode gb_Bk_release 21 = .ok (.istore_n 3, 1) := by decide +kernel
theorem gd_Bk_release_22 : decode gb_Bk_release 22 = .ok (.iload_n 3, 1) := by decide +kernel
theorem gd_Bk_release_23 : decode gb_Bk_release 23 = .ok (.bipush 100, 2) := by decide +kernel
theorem gd_Bk_release_25 : decode gb_Bk_release 25 = .ok (.if_icmp .ge 27, 3) := by decide +kernel
theorem gd_Bk_release_28 : decode gb_Bk_release 28 = .ok (.aload_n 0, 1) := by decide +kernel
theorem gd_Bk_release_29 : decode gb_Bk_release 29 = .ok (.iload_n 3, 1) := by decide +kernel
theorem gd_Bk_release_30 : decode gb_Bk_release 30 = .ok (.invokevirtual 64, 3) := by decide +kernel
theorem gd_Bk_release_33 : decode gb_Bk_release 33 = .ok (.astore 4, 2) := by decide +kernel
theorem gd_Bk_release_35 : decode gb_Bk_release 35 = .ok (.aload 4, 2) := by decide +kernel
theorem gd_Bk_release_37 : decode gb_Bk_release 37 = .ok (.ifnull 9, 3) := by decide +kernel
theorem gd_Bk_release_40 : decode gb_Bk_release 40 = .ok (.aload 4, 2) := by decide +kernel
theorem gd_Bk_release_42 : decode gb_Bk_release 42 = .ok (.iload_n 2, 1) := by decide +kernel
theorem gd_Bk_release_43 : decode gb_Bk_release 43 = .ok (.invokevirtual 114, 3) := by decide +kernel
theorem gd_Bk_release_46 : decode gb_Bk_release 46 = .ok (.iinc 3 1, 3) := by decide +kernel
theorem gd_Bk_release_49 : decode gb_Bk_release 49 = .ok (.goto (-27), 3) := by decide +kernel
theorem gd_Bk_release_52 : decode gb_Bk_release 52 = .ok (.aload_n 0, 1) := by decide +kernel
theorem gd_Bk_release_53 : decode gb_Bk_release 53 = .ok (.invokevirtual 117, 3) := by decide +kernel
theorem gd_Bk_release_56 : decode gb_Bk_release 56 = .ok (.ireturn, 1) := by decide +kernel
theorem gd_Bk_had_0 : decode gb_Bk_had 0 = .ok (.aload_n 0, 1) := by decide +kernel
theorem gd_Bk_had_1 : decode gb_Bk_had 1 = .ok (.iload_n 1, 1) := by decide +kernel
theorem gd_Bk_had_2 : decode gb_Bk_had 2 = .ok (.invokevirtual 111, 3) := by decide +kernel
theorem gd_Bk_had_5 : decode gb_Bk_had 5 = .ok (.istore_n 3, 1) := by decide +kernel
theorem gd_Bk_had_6 : decode gb_Bk_had 6 = .ok (.iload_n 3, 1) := by decide +kernel
theorem gd_Bk_had_7 : decode gb_Bk_had 7 = .ok (.iconst (-1), 1) := by decide +kernel
theorem gd_Bk_had_8 : decode gb_Bk_had 8 = .ok (.if_icmp .eq 14, 3) := by decide +kernel
theorem gd_Bk_had_11 : decode gb_Bk_had 11 = .ok (.iload_n 2, 1) := by decide +kernel
theorem gd_Bk_had_12 : decode gb_Bk_had 12 = .ok (.iconst (-1), 1) := by decide +kernel
theorem gd_Bk_had_13 : decode gb_Bk_had 13 = .ok (.if_icmp .lt 9, 3) := by decide +kernel
theorem gd_Bk_had_16 : decode gb_Bk_had 16 = .ok (.iload_n 2, 1) := by decide +kernel
theorem gd_Bk_had_17 : decode gb_Bk_had 17 = .ok (.bipush 100, 2) := by decide +kernel
theorem gd_Bk_had_19 : decode gb_Bk_had 19 = .ok (.if_icmp .lt 5, 3) := by decide +kernel
theorem gd_Bk_had_22 : decode gb_Bk_had 22 = .ok (.iconst (-1), 1) := by decide +kernel
theorem gd_Bk_had_23 : decode gb_Bk_had 23 = .ok (.ireturn, 1) := by decide +kernel
theorem gd_Bk_had_24 : decode gb_Bk_had 24 = .ok (.iload_n 2, 1) := by decide +kernel
theorem gd_Bk_had_25 : decode gb_Bk_had 25 = .ok (.iconst (-1), 1) := by decide +kernel
theorem gd_Bk_had_26 : decode gb_Bk_had 26 = .ok (.if_icmp .ne 9, 3) := by decide +kernel
theorem gd_Bk_had_29 : decode gb_Bk_had 29 = .ok (.aload_n 0, 1) := by decide +kernel
theorem gd_Bk_had_30 : decode gb_Bk_had 30 = .ok (.iload_n 3, 1) := by decide +kernel
theorem gd_Bk_had_31 : decode gb_Bk_had 31 = .ok (.invokevirtual 121, 3) := by decide +kernel
theorem gd_Bk_had_34 : decode gb_Bk_had 34 = .ok (.ireturn, 1) := by decide +kernel
theorem gd_Bk_had_35 : decode gb_Bk_had 35 = .ok (.aload_n 0, 1) := by decide +kernel
theorem gd_Bk_had_36 : decode gb_Bk_had 36 = .ok (.iload_n 2, 1) := by decide +kernel
theorem gd_Bk_had_37 : decode gb_Bk_had 37 = .ok (.invokevirtual 64, 3) := by decide +kernel
theorem gd_Bk_had_40 : decode gb_Bk_had 40 = .ok (.astore 4, 2) := by decide +kernel
theorem gd_Bk_had_42 : decode gb_Bk_had 42 = .ok (.aload 4, 2) := by decide +kernel
theorem gd_Bk_had_44 : decode gb_Bk_had 44 = .ok (.ifnull 16, 3) := by decide +kernel
theorem gd_Bk_had_47 : decode gb_Bk_had 47 = .ok (.aload 4, 2) := by decide +kernel
theorem gd_Bk_had_49 : decode gb_Bk_had 49 = .ok (.iload_n 3, 1) := by decide +kernel
theorem gd_Bk_had_50 : decode gb_Bk_had 50 = .ok (.invokevirtual 124, 3) := by decide +kernel
theorem gd_Bk_had_53 : decode gb_Bk_had 53 = .ok (.ifCond .eq 7, 3) := by decide +kernel
theorem gd_Bk_had_56 : decode gb_Bk_had 56 = .ok (.iconst 1, 1) := by decide +kernel
theorem gd_Bk_had_57 : decode gb_Bk_had 57 = .ok (.goto 4, 3) := by decide +kernel
theorem gd_Bk_had_60 : decode gb_Bk_had 60 = .ok (.iconst 0, 1) := by decide +kernel
theorem gd_Bk_had_61 : decode gb_Bk_had 61 = .ok (.ireturn, 1) := by decide +kernel
theorem gd_Bk_leaf_0 : decode gb_Bk_leaf 0 = .ok (.iload_n 1, 1) := by decide +kernel
theorem gd_Bk_leaf_1 : decode gb_Bk_leaf 1 = .ok (.ifCond .lt 14, 3) := by decide +kernel
theorem gd_Bk_leaf_4 : decode gb_Bk_leaf 4 = .ok (.iload_n 1, 1) := by decide +kernel
theorem gd_Bk_leaf_5 : decode gb_Bk_leaf 5 = .ok (.aload_n 0, 1) := by decide +kernel
theorem gd_Bk_leaf_6 : decode gb_Bk_leaf 6 = .ok (.getfield 26, 3) := by decide +kernel
theorem gd_Bk_leaf_9 : decode gb_Bk_leaf 9 = .ok (.getfield 127, 3) := by decide +kernel
theorem gd_Bk_leaf_12 : decode gb_Bk_leaf 12 = .ok (.if_icmp .lt 5, 3) := by decide +kernel
theorem gd_Bk_leaf_15 : decode gb_Bk_leaf 15 = .ok (.iconst (-1), 1) := by decide +kernel
theorem gd_Bk_leaf_16 : decode gb_Bk_leaf 16 = .ok (.ireturn, 1) := by decide +kernel
theorem gd_Bk_leaf_17 : decode gb_Bk_leaf 17 = .ok (.iload_n 2, 1) := by decide +kernel
theorem gd_Bk_leaf_18 : decode gb_Bk_leaf 18 = .ok (.tableswitch 67 0 3 #[30, 39, 45, 51], 30) := by decide +kernel
theorem gd_Bk_leaf_48 : decode gb_Bk_leaf 48 = .ok (.aload_n 0, 1) := by decide +kernel
theorem gd_Bk_leaf_49 : decode gb_Bk_leaf 49 = .ok (.getfield 26, 3) := by decide +kernel
theorem gd_Bk_leaf_52 : decode gb_Bk_leaf 52 = .ok (.iload_n 1, 1) := by decide +kernel
theorem gd_Bk_leaf_53 : decode gb_Bk_leaf 53 = .ok (.invokevirtual 130, 3) := by decide +kernel
theorem gd_Bk_leaf_56 : decode gb_Bk_leaf 56 = .ok (.ireturn, 1) := by decide +kernel
theorem gd_Bk_leaf_57 : decode gb_Bk_leaf 57 = .ok (.aload_n 0, 1) := by decide +kernel
theorem gd_Bk_leaf_58 : decode gb_Bk_leaf 58 = .ok (.iload_n 1, 1) := by decide +kernel
theorem gd_Bk_leaf_59 : decode gb_Bk_leaf 59 = .ok (.invokevirtual 133, 3) := by decide +kernel
theorem gd_Bk_leaf_62 : decode gb_Bk_leaf 62 = .ok (.ireturn, 1) := by decide +kernel
theorem gd_Bk_leaf_63 : decode gb_Bk_leaf 63 = .ok (.aload_n 0, 1) := by decide +kernel
theorem gd_Bk_leaf_64 : decode gb_Bk_leaf 64 = .ok (.iload_n 1, 1) := by decide +kernel
theorem gd_Bk_leaf_65 : decode gb_Bk_leaf 65 = .ok (.invokevirtual 136, 3) := by decide +kernel
theorem gd_Bk_leaf_68 : decode gb_Bk_leaf 68 = .ok (.ireturn, 1) := by decide +kernel
theorem gd_Bk_leaf_69 : decode gb_Bk_leaf 69 = .ok (.aload_n 0, 1) := by decide +kernel
theorem gd_Bk_leaf_70 : decode gb_Bk_leaf 70 = .ok (.getfield 26, 3) := by decide +kernel
theorem gd_Bk_leaf_73 : decode gb_Bk_leaf 73 = .ok (.aload_n 0, 1) := by decide +kernel
theorem gd_Bk_leaf_74 : decode gb_Bk_leaf 74 = .ok (.getfield 26, 3) := by decide +kernel
theorem gd_Bk_leaf_77 : decode gb_Bk_leaf 77 = .ok (.iload_n 1, 1) := by decide +kernel
theorem gd_Bk_leaf_78 : decode gb_Bk_leaf 78 = .ok (.invokevirtual 139, 3) := by decide +kernel
theorem gd_Bk_leaf_81 : decode gb_Bk_leaf 81 = .ok (.invokevirtual 85, 3) := by decide +kernel
theorem gd_Bk_leaf_84 : decode gb_Bk_leaf 84 = .ok (.ireturn, 1) := by decide +kernel
theorem gd_Bk_leaf_85 : decode gb_Bk_leaf 85 = .ok (.iconst (-1), 1) := by decide +kernel
theorem gd_Bk_leaf_86 : decode gb_Bk_leaf 86 = .ok (.ireturn, 1) := by decide +kernel
theorem gd_Bk_count_0 : decode gb_Bk_count 0 = .ok (.iload_n 1, 1) := by decide +kernel
theorem gd_Bk_count_1 : decode gb_Bk_count 1 = .ok (.tableswitch 87 0 6 #[43, 51, 59, 64, 69, 74, 82], 43) := by decide +kernel
theorem gd_Bk_count_44 : decode gb_Bk_count 44 = .ok (.aload_n 0, 1) := by decide +kernel
theorem gd_Bk_count_45 : decode gb_Bk_count 45 = .ok (.getfield 26, 3) := by decide +kernel
theorem gd_Bk_count_48 : decode gb_Bk_count 48 = .ok (.getfield 142, 3) := by decide +kernel
theorem gd_Bk_count_51 : decode gb_Bk_count 51 = .ok (.ireturn, 1) := by decide +kernel
theorem gd_Bk_count_52 : decode gb_Bk_count 52 = .ok (.aload_n 0, 1) := by decide +kernel
theorem gd_Bk_count_53 : decode gb_Bk_count 53 = .ok (.getfield 26, 3) := by decide +kernel
theorem gd_Bk_count_56 : decode gb_Bk_count 56 = .ok (.getfield 127, 3) := by decide +kernel
theorem gd_Bk_count_59 : decode gb_Bk_count 59 = .ok (.ireturn, 1) := by decide +kernel
theorem gd_Bk_count_60 : decode gb_Bk_count 60 = .ok (.aload_n 0, 1) := by decide +kernel
theorem gd_Bk_count_61 : decode gb_Bk_count 61 = .ok (.getfield 34, 3) := by decide +kernel
theorem gd_Bk_count_64 : decode gb_Bk_count 64 = .ok (.ireturn, 1) := by decide +kernel
theorem gd_Bk_count_65 : decode gb_Bk_count 65 = .ok (.aload_n 0, 1) := by decide +kernel
theorem gd_Bk_count_66 : decode gb_Bk_count 66 = .ok (.invokevirtual 145, 3) := by decide +kernel
theorem gd_Bk_count_69 : decode gb_Bk_count 69 = .ok (.ireturn, 1) := by decide +kernel
theorem gd_Bk_count_70 : decode gb_Bk_count 70 = .ok (.aload_n 0, 1) := by decide +kernel
theorem gd_Bk_count_71 : decode gb_Bk_count 71 = .ok (.invokevirtual 148, 3) := by decide +kernel
