theorem gd_Bk_count_74 : decode gb_Bk_count 74 = .ok (.ireturn, 1) := by decide +kernel
theorem gd_Bk_count_75 : decode gb_Bk_count 75 = .ok (.aload_n 0, 1) := by decide +kernel
theorem gd_Bk_count_76 : decode gb_Bk_count 76 = .ok (.getfield 10, 3) := by decide +kernel
theorem gd_Bk_count_79 : decode gb_Bk_count 79 = .ok (.getfield 42, 3) := by decide +kernel
theorem gd_Bk_count_82 : decode gb_Bk_count 82 = .ok (.ireturn, 1) := by decide +kernel
theorem gd_Bk_count_83 : decode gb_Bk_count 83 = .ok (.aload_n 0, 1) := by decide +kernel
theorem gd_Bk_count_84 : decode gb_Bk_count 84 = .ok (.invokevirtual 151, 3) := by decide +kernel
theorem gd_Bk_count_87 : decode gb_Bk_count 87 = .ok (.ireturn, 1) := by decide +kernel
theorem gd_Bk_count_88 : decode gb_Bk_count 88 = .ok (.iconst (-1), 1) := by decide +kernel
theorem gd_Bk_count_89 : decode gb_Bk_count 89 = .ok (.ireturn, 1) := by decide +kernel
theorem gd_Bk_isKind_0 : decode gb_Bk_isKind 0 = .ok (.iload_n 0, 1) := by decide +kernel
theorem gd_Bk_isKind_1 : decode gb_Bk_isKind 1 = .ok (.ifCond .lt 12, 3) := by decide +kernel
theorem gd_Bk_isKind_4 : decode gb_Bk_isKind 4 = .ok (.iload_n 0, 1) := by decide +kernel
theorem gd_Bk_isKind_5 : decode gb_Bk_isKind 5 = .ok (.iconst 4, 1) := by decide +kernel
theorem gd_Bk_isKind_6 : decode gb_Bk_isKind 6 = .ok (.if_icmp .ge 7, 3) := by decide +kernel
theorem gd_Bk_isKind_9 : decode gb_Bk_isKind 9 = .ok (.iconst 1, 1) := by decide +kernel
theorem gd_Bk_isKind_10 : decode gb_Bk_isKind 10 = .ok (.goto 4, 3) := by decide +kernel
theorem gd_Bk_isKind_13 : decode gb_Bk_isKind 13 = .ok (.iconst 0, 1) := by decide +kernel
theorem gd_Bk_isKind_14 : decode gb_Bk_isKind 14 = .ok (.ireturn, 1) := by decide +kernel
theorem gd_Bk_byteOf_0 : decode gb_Bk_byteOf 0 = .ok (.lload_n 0, 1) := by decide +kernel
theorem gd_Bk_byteOf_1 : decode gb_Bk_byteOf 1 = .ok (.bipush 8, 2) := by decide +kernel
theorem gd_Bk_byteOf_3 : decode gb_Bk_byteOf 3 = .ok (.iload_n 2, 1) := by decide +kernel
theorem gd_Bk_byteOf_4 : decode gb_Bk_byteOf 4 = .ok (.imul, 1) := by decide +kernel
theorem gd_Bk_byteOf_5 : decode gb_Bk_byteOf 5 = .ok (.lushr, 1) := by decide +kernel
theorem gd_Bk_byteOf_6 : decode gb_Bk_byteOf 6 = .ok (.ldc2_w 154, 3) := by decide +kernel
theorem gd_Bk_byteOf_9 : decode gb_Bk_byteOf 9 = .ok (.land, 1) := by decide +kernel
theorem gd_Bk_byteOf_10 : decode gb_Bk_byteOf 10 = .ok (.l2i, 1) := by decide +kernel
theorem gd_Bk_byteOf_11 : decode gb_Bk_byteOf 11 = .ok (.ireturn, 1) := by decide +kernel
theorem gd_Bk_allFit_0 : decode gb_Bk_allFit 0 = .ok (.iconst 0, 1) := by decide +kernel
theorem gd_Bk_allFit_1 : decode gb_Bk_allFit 1 = .ok (.istore_n 3, 1) := by decide +kernel
theorem gd_Bk_allFit_2 : decode gb_Bk_allFit 2 = .ok (.iload_n 3, 1) := by decide +kernel
theorem gd_Bk_allFit_3 : decode gb_Bk_allFit 3 = .ok (.iload_n 2, 1) := by decide +kernel
theorem gd_Bk_allFit_4 : decode gb_Bk_allFit 4 = .ok (.if_icmp .ge 32, 3) := by decide +kernel
theorem gd_Bk_allFit_7 : decode gb_Bk_allFit 7 = .ok (.lload_n 0, 1) := by decide +kernel
theorem gd_Bk_allFit_8 : decode gb_Bk_allFit 8 = .ok (.iload_n 3, 1) := by decide +kernel
theorem gd_Bk_allFit_9 : decode gb_Bk_allFit 9 = .ok (.invokestatic 45, 3) := by decide +kernel
theorem gd_Bk_allFit_12 : decode gb_Bk_allFit 12 = .ok (.istore 4, 2) := by decide +kernel
theorem gd_Bk_allFit_14 : decode gb_Bk_allFit 14 = .ok (.iload 4, 2) := by decide +kernel
theorem gd_Bk_allFit_16 : decode gb_Bk_allFit 16 = .ok (.bipush 33, 2) := by decide +kernel
theorem gd_Bk_allFit_18 : decode gb_Bk_allFit 18 = .ok (.if_icmp .lt 10, 3) := by decide +kernel
theorem gd_Bk_allFit_21 : decode gb_Bk_allFit 21 = .ok (.iload 4, 2) := by decide +kernel
theorem gd_Bk_allFit_23 : decode gb_Bk_allFit 23 = .ok (.bipush 126, 2) := by decide +kernel
theorem gd_Bk_allFit_25 : decode gb_Bk_allFit 25 = .ok (.if_icmp .le 5, 3) := by decide +kernel
theorem gd_Bk_allFit_28 : decode gb_Bk_allFit 28 = .ok (.iconst 0, 1) := by decide +kernel
theorem gd_Bk_allFit_29 : decode gb_Bk_allFit 29 = .ok (.ireturn, 1) := by decide +kernel
theorem gd_Bk_allFit_30 : decode gb_Bk_allFit 30 = .ok (.iinc 3 1, 3) := by decide +kernel
theorem gd_Bk_allFit_33 : decode gb_Bk_allFit 33 = .ok (.goto (-31), 3) := by decide +kernel
theorem gd_Bk_allFit_36 : decode gb_Bk_allFit 36 = .ok (.iconst 1, 1) := by decide +kernel
theorem gd_Bk_allFit_37 : decode gb_Bk_allFit 37 = .ok (.ireturn, 1) := by decide +kernel
theorem gd_Bk_inBook_0 : decode gb_Bk_inBook 0 = .ok (.iload_n 1, 1) := by decide +kernel
theorem gd_Bk_inBook_1 : decode gb_Bk_inBook 1 = .ok (.ifCond .lt 12, 3) := by decide +kernel
theorem gd_Bk_inBook_4 : decode gb_Bk_inBook 4 = .ok (.iload_n 1, 1) := by decide +kernel
theorem gd_Bk_inBook_5 : decode gb_Bk_inBook 5 = .ok (.aload_n 0, 1) := by decide +kernel
theorem gd_Bk_inBook_6 : decode gb_Bk_inBook 6 = .ok (.getfield 18, 3) := by decide +kernel
theorem gd_Bk_inBook_9 : decode gb_Bk_inBook 9 = .ok (.arraylength, 1) := by decide +kernel
theorem gd_Bk_inBook_10 : decode gb_Bk_inBook 10 = .ok (.if_icmp .lt 5, 3) := by decide +kernel
theorem gd_Bk_inBook_13 : decode gb_Bk_inBook 13 = .ok (.aconst_null, 1) := by decide +kernel
theorem gd_Bk_inBook_14 : decode gb_Bk_inBook 14 = .ok (.areturn, 1) := by decide +kernel
theorem gd_Bk_inBook_15 : decode gb_Bk_inBook 15 = .ok (.aload_n 0, 1) := by decide +kernel
theorem gd_Bk_inBook_16 : decode gb_Bk_inBook 16 = .ok (.getfield 18, 3) := by decide +kernel
theorem gd_Bk_inBook_19 : decode gb_Bk_inBook 19 = .ok (.iload_n 1, 1) := by decide +kernel
theorem gd_Bk_inBook_20 : decode gb_Bk_inBook 20 = .ok (.aaload, 1) := by decide +kernel
theorem gd_Bk_inBook_21 : decode gb_Bk_inBook 21 = .ok (.astore_n 2, 1) := by decide +kernel
theorem gd_Bk_inBook_22 : decode gb_Bk_inBook 22 = .ok (.aload_n 2, 1) := by decide +kernel
theorem gd_Bk_inBook_23 : decode gb_Bk_inBook 23 = .ok (.ifnull 14, 3) := by decide +kernel
theorem gd_Bk_inBook_26 : decode gb_Bk_inBook 26 = .ok (.aload_n 2, 1) := by decide +kernel
theorem gd_Bk_inBook_27 : decode gb_Bk_inBook 27 = .ok (.getfield 156, 3) := by decide +kernel
theorem gd_Bk_inBook_30 : decode gb_Bk_inBook 30 = .ok (.ifCond .eq 7, 3) := by decide +kernel
theorem gd_Bk_inBook_33 : decode gb_Bk_inBook 33 = .ok (.aload_n 2, 1) := by decide +kernel
theorem gd_Bk_inBook_34 : decode gb_Bk_inBook 34 = .ok (.goto 4, 3) := by decide +kernel
theorem gd_Bk_inBook_37 : decode gb_Bk_inBook 37 = .ok (.aconst_null, 1) := by decide +kernel
theorem gd_Bk_inBook_38 : decode gb_Bk_inBook 38 = .ok (.areturn, 1) := by decide +kernel
theorem gd_Bk_placeOfTape_0 : decode gb_Bk_placeOfTape 0 = .ok (.iconst 0, 1) := by decide +kernel
theorem gd_Bk_placeOfTape_1 : decode gb_Bk_placeOfTape 1 = .ok (.istore_n 2, 1) := by decide +kernel
theorem gd_Bk_placeOfTape_2 : decode gb_Bk_placeOfTape 2 = .ok (.iload_n 2, 1) := by decide +kernel
theorem gd_Bk_placeOfTape_3 : decode gb_Bk_placeOfTape 3 = .ok (.aload_n 0, 1) := by decide +kernel
theorem gd_Bk_placeOfTape_4 : decode gb_Bk_placeOfTape 4 = .ok (.getfield 26, 3) := by decide +kernel
theorem gd_Bk_placeOfTape_7 : decode gb_Bk_placeOfTape 7 = .ok (.getfield 142, 3) := by decide +kernel
theorem gd_Bk_placeOfTape_10 : decode gb_Bk_placeOfTape 10 = .ok (.if_icmp .ge 25, 3) := by decide +kernel
theorem gd_Bk_placeOfTape_13 : decode gb_Bk_placeOfTape 13 = .ok (.aload_n 0, 1) := by decide +kernel
theorem gd_Bk_placeOfTape_14 : decode gb_Bk_placeOfTape 14 = .ok (.aload_n 0, 1) := by decide +kernel
theorem gd_Bk_placeOfTape_15 : decode gb_Bk_placeOfTape 15 = .ok (.getfield 26, 3) := by decide +kernel
theorem gd_Bk_placeOfTape_18 : decode gb_Bk_placeOfTape 18 = .ok (.iload_n 2, 1) := by decide +kernel
theorem gd_Bk_placeOfTape_19 : decode gb_Bk_placeOfTape 19 = .ok (.invokevirtual 85, 3) := by decide +kernel
theorem gd_Bk_placeOfTape_22 : decode gb_Bk_placeOfTape 22 = .ok (.iload_n 1, 1) := by decide +kernel
theorem gd_Bk_placeOfTape_23 : decode gb_Bk_placeOfTape 23 = .ok (.invokevirtual 160, 3) := by decide +kernel
theorem gd_Bk_placeOfTape_26 : decode gb_Bk_placeOfTape 26 = .ok (.ifCond .eq 9, 3) := by decide +kernel
theorem gd_Bk_placeOfTape_29 : decode gb_Bk_placeOfTape 29 = .ok (.iinc 2 1, 3) := by decide +kernel
theorem gd_Bk_placeOfTape_32 : decode gb_Bk_placeOfTape 32 = .ok (.goto (-30), 3) := by decide +kernel
theorem gd_Bk_placeOfTape_35 : decode gb_Bk_placeOfTape 35 = .ok (.iload_n 2, 1) := by decide +kernel
theorem gd_Bk_placeOfTape_36 : decode gb_Bk_placeOfTape 36 = .ok (.ireturn, 1) := by decide +kernel
theorem gd_Bk_isBeforeTape_0 : decode gb_Bk_isBeforeTape 0 = .ok (.aload_n 0, 1) := by decide +kernel
theorem gd_Bk_isBeforeTape_1 : decode gb_Bk_isBeforeTape 1 = .ok (.iload_n 1, 1) := by decide +kernel
theorem gd_Bk_isBeforeTape_2 : decode gb_Bk_isBeforeTape 2 = .ok (.invokevirtual 64, 3) := by decide +kernel
theorem gd_Bk_isBeforeTape_5 : decode gb_Bk_isBeforeTape 5 = .ok (.astore_n 3, 1) := by decide +kernel
theorem gd_Bk_isBeforeTape_6 : decode gb_Bk_isBeforeTape 6 = .ok (.aload_n 3, 1) := by decide +kernel
theorem gd_Bk_isBeforeTape_7 : decode gb_Bk_isBeforeTape 7 = .ok (.ifnull 19, 3) := by decide +kernel
theorem gd_Bk_isBeforeTape_10 : decode gb_Bk_isBeforeTape 10 = .ok (.aload_n 3, 1) := by decide +kernel
theorem gd_Bk_isBeforeTape_11 : decode gb_Bk_isBeforeTape 11 = .ok (.iload_n 2, 1) := by decide +kernel
theorem gd_Bk_isBeforeTape_12 : decode gb_Bk_isBeforeTape 12 = .ok (.aload_n 0, 1) := by decide +kernel
theorem gd_Bk_isBeforeTape_13 : decode gb_Bk_isBeforeTape 13 = .ok (.getfield 10, 3) := by decide +kernel
theorem gd_Bk_isBeforeTape_16 : decode gb_Bk_isBeforeTape 16 = .ok (.invokevirtual 163, 3) := by decide +kernel
theorem gd_Bk_isBeforeTape_19 : decode gb_Bk_isBeforeTape 19 = .ok (.ifCond .ge 7, 3) := by decide +kernel
theorem gd_Bk_isBeforeTape_22 : decode gb_Bk_isBeforeTape 22 = .ok (.iconst 1, 1) := by decide +kernel
theorem gd_Bk_isBeforeTape_23 : decode gb_Bk_isBeforeTape 23 = .ok (.goto 4, 3) := by decide +kernel
theorem gd_Bk_isBeforeTape_26 : decode gb_Bk_isBeforeTape 26 = .ok (.iconst 0, 1) := by decide +kernel
theorem gd_Bk_isBeforeTape_27 : decode gb_Bk_isBeforeTape 27 = .ok (.ireturn, 1) := by decide +kernel
theorem gd_Bk_isTape_0 : decode gb_Bk_isTape 0 = .ok (.aload_n 0, 1) := by decide +kernel
theorem gd_Bk_isTape_1 : decode gb_Bk_isTape 1 = .ok (.iload_n 1, 1) := by decide +kernel
theorem gd_Bk_isTape_2 : decode gb_Bk_isTape 2 = .ok (.invokevirtual 64, 3) := by decide +kernel
theorem gd_Bk_isTape_5 : decode gb_Bk_isTape 5 = .ok (.astore_n 3, 1) := by decide +kernel
theorem gd_Bk_isTape_6 : decode gb_Bk_isTape 6 = .ok (.aload_n 3, 1) := by decide +kernel
theorem gd_Bk_isTape_7 : decode gb_Bk_isTape 7 = .ok (.ifnull 19, 3) := by decide +kernel
theorem gd_Bk_isTape_10 : decode gb_Bk_isTape 10 = .ok (.aload_n 3, 1) := by decide +kernel
theorem gd_Bk_isTape_11 : decode gb_Bk_isTape 11 = .ok (.iload_n 2, 1) := by decide +kernel
theorem gd_Bk_isTape_12 : decode gb_Bk_isTape 12 = .ok (.aload_n 0, 1) := by decide +kernel
theorem gd_Bk_isTape_13 : decode gb_Bk_isTape 13 = .ok (.getfield 10, 3) := by decide +kernel
theorem gd_Bk_isTape_16 : decode gb_Bk_isTape 16 = .ok (.invokevirtual 163, 3) := by decide +kernel
theorem gd_Bk_isTape_19 : decode gb_Bk_isTape 19 = .ok (.ifCond .ne 7, 3) := by decide +kernel
theorem gd_Bk_isTape_22 : decode gb_Bk_isTape 22 = .ok (.iconst 1, 1) := by decide +kernel
theorem gd_Bk_isTape_23 : decode gb_Bk_isTape 23 = .ok (.goto 4, 3) := by decide +kernel
theorem gd_Bk_isTape_26 : decode gb_Bk_isTape 26 = .ok (.iconst 0, 1) := by decide +kernel
theorem gd_Bk_isTape_27 : decode gb_Bk_isTape 27 = .ok (.ireturn, 1) := by decide +kernel
theorem gd_Bk_useTape_0 : decode gb_Bk_useTape 0 = .ok (.aload_n 0, 1) := by decide +kernel
theorem gd_Bk_useTape_1 : decode gb_Bk_useTape 1 = .ok (.iload_n 1, 1) := by decide +kernel
theorem gd_Bk_useTape_2 : decode gb_Bk_useTape 2 = .ok (.invokevirtual 82, 3) := by decide +kernel
theorem gd_Bk_useTape_5 : decode gb_Bk_useTape 5 = .ok (.istore_n 2, 1) := by decide +kernel
theorem gd_Bk_useTape_6 : decode gb_Bk_useTape 6 = .ok (.aload_n 0, 1) := by decide +kernel
theorem gd_Bk_useTape_7 : decode gb_Bk_useTape 7 = .ok (.getfield 26, 3) := by decide +kernel
theorem gd_Bk_useTape_10 : decode gb_Bk_useTape 10 = .ok (.iload_n 2, 1) := by decide +kernel
theorem gd_Bk_useTape_11 : decode gb_Bk_useTape 11 = .ok (.invokevirtual 85, 3) := by decide +kernel
theorem gd_Bk_useTape_14 : decode gb_Bk_useTape 14 = .ok (.istore_n 3, 1) := by decide +kernel
theorem gd_Bk_useTape_15 : decode gb_Bk_useTape 15 = .ok (.aload_n 0, 1) := by decide +kernel
theorem gd_Bk_useTape_16 : decode gb_Bk_useTape 16 = .ok (.iload_n 3, 1) := by decide +kernel
theorem gd_Bk_useTape_17 : decode gb_Bk_useTape 17 = .ok (.iload_n 1, 1) := by decide +kernel
theorem gd_Bk_useTape_18 : decode gb_Bk_useTape 18 = .ok (.invokevirtual 88, 3) := by decide +kernel
theorem gd_Bk_useTape_21 : decode gb_Bk_useTape 21 = .ok (.ifCond .ne 10, 3) := by decide +kernel
theorem gd_Bk_useTape_24 : decode gb_Bk_useTape 24 = .ok (.aload_n 0, 1) := by decide +kernel
theorem gd_Bk_useTape_25 : decode gb_Bk_useTape 25 = .ok (.iload_n 1, 1) := by decide +kernel
theorem gd_Bk_useTape_26 : decode gb_Bk_useTape 26 = .ok (.iload_n 2, 1) := by decide +kernel
theorem gd_Bk_useTape_27 : decode gb_Bk_useTape 27 = .ok (.invokevirtual 167, 3) := by decide +kernel
theorem gd_Bk_useTape_30 : decode gb_Bk_useTape 30 = .ok (.istore_n 3, 1) := by decide +kernel
theorem gd_Bk_useTape_31 : decode gb_Bk_useTape 31 = .ok (.aload_n 0, 1) := by decide +kernel
theorem gd_Bk_useTape_32 : decode gb_Bk_useTape 32 = .ok (.iload_n 3, 1) := by decide +kernel
theorem gd_Bk_useTape_33 : decode gb_Bk_useTape 33 = .ok (.invokevirtual 64, 3) := by decide +kernel
theorem gd_Bk_useTape_36 : decode gb_Bk_useTape 36 = .ok (.astore 4, 2) := by decide +kernel
theorem gd_Bk_useTape_38 : decode gb_Bk_useTape 38 = .ok (.aload 4, 2) := by decide +kernel
theorem gd_Bk_useTape_40 : decode gb_Bk_useTape 40 = .ok (.ifnonnull 6, 3) := by decide +kernel
theorem gd_Bk_useTape_43 : decode gb_Bk_useTape 43 = .ok (.bipush (-3), 2) := by decide +kernel
theorem gd_Bk_useTape_45 : decode gb_Bk_useTape 45 = .ok (.ireturn, 1) := by decide +kernel
theorem gd_Bk_useTape_46 : decode gb_Bk_useTape 46 = .ok (.aload 4, 2) := by decide +kernel
theorem gd_Bk_useTape_48 : decode gb_Bk_useTape 48 = .ok (.dup, 1) := by decide +kernel
theorem gd_Bk_useTape_49 : decode gb_Bk_useTape 49 = .ok (.getfield 68, 3) := by decide +kernel
theorem gd_Bk_useTape_52 : decode gb_Bk_useTape 52 = .ok (.iconst 1, 1) := by decide +kernel
theorem gd_Bk_useTape_53 : decode gb_Bk_useTape 53 = .ok (.iadd, 1) := by decide +kernel
theorem gd_Bk_useTape_54 : decode gb_Bk_useTape 54 = .ok (.putfield 68, 3) := by decide +kernel
theorem gd_Bk_useTape_57 : decode gb_Bk_useTape 57 = .ok (.iload_n 3, 1) := by decide +kernel
theorem gd_Bk_useTape_58 : decode gb_Bk_useTape 58 = .ok (.ireturn, 1) := by decide +kernel
theorem gd_Bk_bringTape_0 : decode gb_Bk_bringTape 0 = .ok (.aload_n 0, 1) := by decide +kernel
theorem gd_Bk_bringTape_1 : decode gb_Bk_bringTape 1 = .ok (.invokevirtual 171, 3) := by decide +kernel
theorem gd_Bk_bringTape_4 : decode gb_Bk_bringTape 4 = .ok (.istore_n 3, 1) := by decide +kernel
theorem gd_Bk_bringTape_5 : decode gb_Bk_bringTape 5 = .ok (.iload_n 3, 1) := by decide +kernel
theorem gd_Bk_bringTape_6 : decode gb_Bk_bringTape 6 = .ok (.iconst (-1), 1) := by decide +kernel
theorem gd_Bk_bringTape_7 : decode gb_Bk_bringTape 7 = .ok (.if_icmp .eq 12, 3) := by decide +kernel
theorem gd_Bk_bringTape_10 : decode gb_Bk_bringTape 10 = .ok (.aload_n 0, 1) := by decide +kernel
theorem gd_Bk_bringTape_11 : decode gb_Bk_bringTape 11 = .ok (.getfield 18, 3) := by decide +kernel
theorem gd_Bk_bringTape_14 : decode gb_Bk_bringTape 14 = .ok (.iload_n 3, 1) := by decide +kernel
theorem gd_Bk_bringTape_15 : decode gb_Bk_bringTape 15 = .ok (.aaload, 1) := by decide +kernel
theorem gd_Bk_bringTape_16 : decode gb_Bk_bringTape 16 = .ok (.ifnonnull 5, 3) := by decide +kernel
theorem gd_Bk_bringTape_19 : decode gb_Bk_bringTape 19 = .ok (.iconst (-1), 1) := by decide +kernel
theorem gd_Bk_bringTape_20 : decode gb_Bk_bringTape 20 = .ok (.ireturn, 1) := by decide +kernel
theorem gd_Bk_bringTape_21 : decode gb_Bk_bringTape 21 = .ok (.aload_n 0, 1) := by decide +kernel
theorem gd_Bk_bringTape_22 : decode gb_Bk_bringTape 22 = .ok (.getfield 18, 3) := by decide +kernel
theorem gd_Bk_bringTape_25 : decode gb_Bk_bringTape 25 = .ok (.iload_n 3, 1) := by decide +kernel
theorem gd_Bk_bringTape_26 : decode gb_Bk_bringTape 26 = .ok (.aaload, 1) := by decide +kernel
theorem gd_Bk_bringTape_27 : decode gb_Bk_bringTape 27 = .ok (.iload_n 1, 1) := by decide +kernel
theorem gd_Bk_bringTape_28 : decode gb_Bk_bringTape 28 = .ok (.aload_n 0, 1) := by decide +kernel
theorem gd_Bk_bringTape_29 : decode gb_Bk_bringTape 29 = .ok (.getfield 10, 3) := by decide +kernel
theorem gd_Bk_bringTape_32 : decode gb_Bk_bringTape 32 = .ok (.invokevirtual 174, 3) := by decide +kernel
theorem gd_Bk_bringTape_35 : decode gb_Bk_bringTape 35 = .ok (.aload_n 0, 1) := by decide +kernel
theorem gd_Bk_bringTape_36 : decode gb_Bk_bringTape 36 = .ok (.getfield 26, 3) := by decide +kernel
theorem gd_Bk_bringTape_39 : decode gb_Bk_bringTape 39 = .ok (.iload_n 2, 1) := by decide +kernel
theorem gd_Bk_bringTape_40 : decode gb_Bk_bringTape 40 = .ok (.iload_n 3, 1) := by decide +kernel
theorem gd_Bk_bringTape_41 : decode gb_Bk_bringTape 41 = .ok (.invokevirtual 178, 3) := by decide +kernel
theorem gd_Bk_bringTape_44 : decode gb_Bk_bringTape 44 = .ok (.iload_n 3, 1) := by decide +kernel
theorem gd_Bk_bringTape_45 : decode gb_Bk_bringTape 45 = .ok (.ireturn, 1) := by decide +kernel
theorem gd_Bk_leastFree_0 : decode gb_Bk_leastFree 0 = .ok (.iconst 0, 1) := by decide +kernel
theorem gd_Bk_leastFree_1 : decode gb_Bk_leastFree 1 = .ok (.istore_n 1, 1) := by decide +kernel
theorem gd_Bk_leastFree_2 : decode gb_Bk_leastFree 2 = .ok (.iload_n 1, 1) := by decide +kernel
theorem gd_Bk_leastFree_3 : decode gb_Bk_leastFree 3 = .ok (.bipush 100, 2) := by decide +kernel
theorem gd_Bk_leastFree_5 : decode gb_Bk_leastFree 5 = .ok (.if_icmp .ge 19, 3) := by decide +kernel
theorem gd_Bk_leastFree_8 : decode gb_Bk_leastFree 8 = .ok (.aload_n 0, 1) := by decide +kernel
theorem gd_Bk_leastFree_9 : decode gb_Bk_leastFree 9 = .ok (.iload_n 1, 1) := by decide +kernel
theorem gd_Bk_leastFree_10 : decode gb_Bk_leastFree 10 = .ok (.invokevirtual 64, 3) := by decide +kernel
theorem gd_Bk_leastFree_13 : decode gb_Bk_leastFree 13 = .ok (.ifnonnull 5, 3) := by decide +kernel
theorem gd_Bk_leastFree_16 : decode gb_Bk_leastFree 16 = .ok (.iload_n 1, 1) := by decide +kernel
theorem gd_Bk_leastFree_17 : decode gb_Bk_leastFree 17 = .ok (.ireturn, 1) := by decide +kernel
theorem gd_Bk_leastFree_18 : decode gb_Bk_leastFree 18 = .ok (.iinc 1 1, 3) := by decide +kernel
theorem gd_Bk_leastFree_21 : decode gb_Bk_leastFree 21 = .ok (.goto (-19), 3) := by decide +kernel
theorem gd_Bk_leastFree_24 : decode gb_Bk_leastFree 24 = .ok (.iconst (-1), 1) := by decide +kernel
theorem gd_Bk_leastFree_25 : decode gb_Bk_leastFree 25 = .ok (.ireturn, 1) := by decide +kernel
theorem gd_Bk_takeOut_0 : decode gb_Bk_takeOut 0 = .ok (.aload_n 1, 1) := by decide +kernel
theorem gd_Bk_takeOut_1 : decode gb_Bk_takeOut 1 = .ok (.iconst 0, 1) := by decide +kernel
theorem gd_Bk_takeOut_2 : decode gb_Bk_takeOut 2 = .ok (.putfield 156, 3) := by decide +kernel
theorem gd_Bk_takeOut_5 : decode gb_Bk_takeOut 5 = .ok (.aload_n 0, 1) := by decide +kernel
theorem gd_Bk_takeOut_6 : decode gb_Bk_takeOut 6 = .ok (.getfield 26, 3) := by decide +kernel
theorem gd_Bk_takeOut_9 : decode gb_Bk_takeOut 9 = .ok (.iload_n 2, 1) := by decide +kernel
theorem gd_Bk_takeOut_10 : decode gb_Bk_takeOut 10 = .ok (.invokevirtual 182, 3) := by decide +kernel
theorem gd_Bk_takeOut_13 : decode gb_Bk_takeOut 13 = .ok (.return_, 1) := by decide +kernel
theorem gd_Bk_takeOutUnneeded_0 : decode gb_Bk_takeOutUnneeded 0 = .ok (.aload_n 0, 1) := by decide +kernel
theorem gd_Bk_takeOutUnneeded_1 : decode gb_Bk_takeOutUnneeded 1 = .ok (.getfield 26, 3) := by decide +kernel
theorem gd_Bk_takeOutUnneeded_4 : decode gb_Bk_takeOutUnneeded 4 = .ok (.getfield 142, 3) := by decide +kernel
theorem gd_Bk_takeOutUnneeded_7 : decode gb_Bk_takeOutUnneeded 7 = .ok (.istore_n 1, 1) := by decide +kernel
theorem gd_Bk_takeOutUnneeded_8 : decode gb_Bk_takeOutUnneeded 8 = .ok (.iconst 0, 1) := by decide +kernel
theorem gd_Bk_takeOutUnneeded_9 : decode gb_Bk_takeOutUnneeded 9 = .ok (.istore_n 2, 1) := by decide +kernel
theorem gd_Bk_takeOutUnneeded_10 : decode gb_Bk_takeOutUnneeded 10 = .ok (.iconst 0, 1) := by decide +kernel
theorem gd_Bk_takeOutUnneeded_11 : decode gb_Bk_takeOutUnneeded 11 = .ok (.istore_n 3, 1) := by decide +kernel
theorem gd_Bk_takeOutUnneeded_12 : decode gb_Bk_takeOutUnneeded 12 = .ok (.iload_n 3, 1) := by decide +kernel
theorem gd_Bk_takeOutUnneeded_13 : decode gb_Bk_takeOutUnneeded 13 = .ok (.iload_n 1, 1) := by decide +kernel
theorem gd_Bk_takeOutUnneeded_14 : decode gb_Bk_takeOutUnneeded 14 = .ok (.if_icmp .ge 49, 3) := by decide +kernel
theorem gd_Bk_takeOutUnneeded_17 : decode gb_Bk_takeOutUnneeded 17 = .ok (.aload_n 0, 1) := by decide +kernel
theorem gd_Bk_takeOutUnneeded_18 : decode gb_Bk_takeOutUnneeded 18 = .ok (.aload_n 0, 1) := by decide +kernel
theorem gd_Bk_takeOutUnneeded_19 : decode gb_Bk_takeOutUnneeded 19 = .ok (.getfield 26, 3) := by decide +kernel
theorem gd_Bk_takeOutUnneeded_22 : decode gb_Bk_takeOutUnneeded 22 = .ok (.iload_n 2, 1) := by decide +kernel
theorem gd_Bk_takeOutUnneeded_23 : decode gb_Bk_takeOutUnneeded 23 = .ok (.invokevirtual 85, 3) := by decide +kernel
theorem gd_Bk_takeOutUnneeded_26 : decode gb_Bk_takeOutUnneeded 26 = .ok (.invokevirtual 64, 3) := by decide +kernel
theorem gd_Bk_takeOutUnneeded_29 : decode gb_Bk_takeOutUnneeded 29 = .ok (.astore 4, 2) := by decide +kernel
theorem gd_Bk_takeOutUnneeded_31 : decode gb_Bk_takeOutUnneeded 31 = .ok (.aload 4, 2) := by decide +kernel
theorem gd_Bk_takeOutUnneeded_33 : decode gb_Bk_takeOutUnneeded 33 = .ok (.ifnull 21, 3) := by decide +kernel
theorem gd_Bk_takeOutUnneeded_36 : decode gb_Bk_takeOutUnneeded 36 = .ok (.aload 4, 2) := by decide +kernel
theorem gd_Bk_takeOutUnneeded_38 : decode gb_Bk_takeOutUnneeded 38 = .ok (.invokevirtual 71, 3) := by decide +kernel
theorem gd_Bk_takeOutUnneeded_41 : decode gb_Bk_takeOutUnneeded 41 = .ok (.ifCond .ne 13, 3) := by decide +kernel
theorem gd_Bk_takeOutUnneeded_44 : decode gb_Bk_takeOutUnneeded 44 = .ok (.aload_n 0, 1) := by decide +kernel
theorem gd_Bk_takeOutUnneeded_45 : decode gb_Bk_takeOutUnneeded 45 = .ok (.aload 4, 2) := by decide +kernel
theorem gd_Bk_takeOutUnneeded_47 : decode gb_Bk_takeOutUnneeded 47 = .ok (.iload_n 2, 1) := by decide +kernel
theorem gd_Bk_takeOutUnneeded_48 : decode gb_Bk_takeOutUnneeded 48 = .ok (.invokevirtual 78, 3) := by decide +kernel
theorem gd_Bk_takeOutUnneeded_51 : decode gb_Bk_takeOutUnneeded 51 = .ok (.goto 6, 3) := by decide +kernel
theorem gd_Bk_takeOutUnneeded_54 : decode gb_Bk_takeOutUnneeded 54 = .ok (.iinc 2 1, 3) := by decide +kernel
theorem gd_Bk_takeOutUnneeded_57 : decode gb_Bk_takeOutUnneeded 57 = .ok (.iinc 3 1, 3) := by decide +kernel
theorem gd_Bk_takeOutUnneeded_60 : decode gb_Bk_takeOutUnneeded 60 = .ok (.goto (-48), 3) := by decide +kernel
theorem gd_Bk_takeOutUnneeded_63 : decode gb_Bk_takeOutUnneeded 63 = .ok (.iload_n 1, 1) := by decide +kernel
theorem gd_Bk_takeOutUnneeded_64 : decode gb_Bk_takeOutUnneeded 64 = .ok (.aload_n 0, 1) := by decide +kernel
theorem gd_Bk_takeOutUnneeded_65 : decode gb_Bk_takeOutUnneeded 65 = .ok (.getfield 26, 3) := by decide +kernel
theorem gd_Bk_takeOutUnneeded_68 : decode gb_Bk_takeOutUnneeded 68 = .ok (.getfield 142, 3) := by decide +kernel
theorem gd_Bk_takeOutUnneeded_71 : decode gb_Bk_takeOutUnneeded 71 = .ok (.isub, 1) := by decide +kernel
theorem gd_Bk_takeOutUnneeded_72 : decode gb_Bk_takeOutUnneeded 72 = .ok (.ireturn, 1) := by decide +kernel
theorem gd_Bk_slotOf_0 : decode gb_Bk_slotOf 0 = .ok (.iconst 0, 1) := by decide +kernel
theorem gd_Bk_slotOf_1 : decode gb_Bk_slotOf 1 = .ok (.istore_n 2, 1) := by decide +kernel
theorem gd_Bk_slotOf_2 : decode gb_Bk_slotOf 2 = .ok (.iload_n 2, 1) := by decide +kernel
theorem gd_Bk_slotOf_3 : decode gb_Bk_slotOf 3 = .ok (.aload_n 0, 1) := by decide +kernel
theorem gd_Bk_slotOf_4 : decode gb_Bk_slotOf 4 = .ok (.getfield 30, 3) := by decide +kernel
theorem gd_Bk_slotOf_7 : decode gb_Bk_slotOf 7 = .ok (.arraylength, 1) := by decide +kernel
theorem gd_Bk_slotOf_8 : decode gb_Bk_slotOf 8 = .ok (.if_icmp .ge 21, 3) := by decide +kernel
theorem gd_Bk_slotOf_11 : decode gb_Bk_slotOf 11 = .ok (.aload_n 0, 1) := by decide +kernel
theorem gd_Bk_slotOf_12 : decode gb_Bk_slotOf 12 = .ok (.getfield 30, 3) := by decide +kernel
theorem gd_Bk_slotOf_15 : decode gb_Bk_slotOf 15 = .ok (.iload_n 2, 1) := by decide +kernel
theorem gd_Bk_slotOf_16 : decode gb_Bk_slotOf 16 = .ok (.iaload, 1) := by decide +kernel
theorem gd_Bk_slotOf_17 : decode gb_Bk_slotOf 17 = .ok (.iload_n 1, 1) := by decide +kernel
theorem gd_Bk_slotOf_18 : decode gb_Bk_slotOf 18 = .ok (.if_icmp .ne 5, 3) := by decide +kernel
theorem gd_Bk_slotOf_21 : decode gb_Bk_slotOf 21 = .ok (.iload_n 2, 1) := by decide +kernel
theorem gd_Bk_slotOf_22 : decode gb_Bk_slotOf 22 = .ok (.ireturn, 1) := by decide +kernel
theorem gd_Bk_slotOf_23 : decode gb_Bk_slotOf 23 = .ok (.iinc 2 1, 3) := by decide +kernel
theorem gd_Bk_slotOf_26 : decode gb_Bk_slotOf 26 = .ok (.goto (-24), 3) := by decide +kernel
theorem gd_Bk_slotOf_29 : decode gb_Bk_slotOf 29 = .ok (.iconst (-1), 1) := by decide +kernel
theorem gd_Bk_slotOf_30 : decode gb_Bk_slotOf 30 = .ok (.ireturn, 1) := by decide +kernel
theorem gd_Bk_keptSlot_0 : decode gb_Bk_keptSlot 0 = .ok (.iload_n 1, 1) := by decide +kernel
theorem gd_Bk_keptSlot_1 : decode gb_Bk_keptSlot 1 = .ok (.ifCond .ge 7, 3) := by decide +kernel
theorem gd_Bk_keptSlot_4 : decode gb_Bk_keptSlot 4 = .ok (.iconst (-1), 1) := by decide +kernel
theorem gd_Bk_keptSlot_5 : decode gb_Bk_keptSlot 5 = .ok (.goto 8, 3) := by decide +kernel
theorem gd_Bk_keptSlot_8 : decode gb_Bk_keptSlot 8 = .ok (.aload_n 0, 1) := by decide +kernel
theorem gd_Bk_keptSlot_9 : decode gb_Bk_keptSlot 9 = .ok (.iload_n 1, 1) := by decide +kernel
theorem gd_Bk_keptSlot_10 : decode gb_Bk_keptSlot 10 = .ok (.invokevirtual 105, 3) := by decide +kernel
theorem gd_Bk_keptSlot_13 : decode gb_Bk_keptSlot 13 = .ok (.ireturn, 1) := by decide +kernel
theorem gd_Bk_countKeptFor_0 : decode gb_Bk_countKeptFor 0 = .ok (.iconst 0, 1) := by decide +kernel
theorem gd_Bk_countKeptFor_1 : decode gb_Bk_countKeptFor 1 = .ok (.istore_n 2, 1) := by decide +kernel
theorem gd_Bk_countKeptFor_2 : decode gb_Bk_countKeptFor 2 = .ok (.iconst 0, 1) := by decide +kernel
theorem gd_Bk_countKeptFor_3 : decode gb_Bk_countKeptFor 3 = .ok (.istore_n 3, 1) := by decide +kernel
theorem gd_Bk_countKeptFor_4 : decode gb_Bk_countKeptFor 4 = .ok (.iload_n 3, 1) := by decide +kernel
theorem gd_Bk_countKeptFor_5 : decode gb_Bk_countKeptFor 5 = .ok (.bipush 100, 2) := by decide +kernel
theorem gd_Bk_countKeptFor_7 : decode gb_Bk_countKeptFor 7 = .ok (.if_icmp .ge 33, 3) := by decide +kernel
theorem gd_Bk_countKeptFor_10 : decode gb_Bk_countKeptFor 10 = .ok (.aload_n 0, 1) := by decide +kernel
theorem gd_Bk_countKeptFor_11 : decode gb_Bk_countKeptFor 11 = .ok (.iload_n 3, 1) := by decide +kernel
theorem gd_Bk_countKeptFor_12 : decode gb_Bk_countKeptFor 12 = .ok (.invokevirtual 64, 3) := by decide +kernel
theorem gd_Bk_countKeptFor_15 : decode gb_Bk_countKeptFor 15 = .ok (.astore 4, 2) := by decide +kernel
theorem gd_Bk_countKeptFor_17 : decode gb_Bk_countKeptFor 17 = .ok (.aload 4, 2) := by decide +kernel
theorem gd_Bk_countKeptFor_19 : decode gb_Bk_countKeptFor 19 = .ok (.ifnull 15, 3) := by decide +kernel
theorem gd_Bk_countKeptFor_22 : decode gb_Bk_countKeptFor 22 = .ok (.aload 4, 2) := by decide +kernel
theorem gd_Bk_countKeptFor_24 : decode gb_Bk_countKeptFor 24 = .ok (.iload_n 1, 1) := by decide +kernel
theorem gd_Bk_countKeptFor_25 : decode gb_Bk_countKeptFor 25 = .ok (.invokevirtual 124, 3) := by decide +kernel
theorem gd_Bk_countKeptFor_28 : decode gb_Bk_countKeptFor 28 = .ok (.ifCond .eq 6, 3) := by decide +kernel
theorem gd_Bk_countKeptFor_31 : decode gb_Bk_countKeptFor 31 = .ok (.iinc 2 1, 3) := by decide +kernel
theorem gd_Bk_countKeptFor_34 : decode gb_Bk_countKeptFor 34 = .ok (.iinc 3 1, 3) := by decide +kernel
theorem gd_Bk_countKeptFor_37 : decode gb_Bk_countKeptFor 37 = .ok (.goto (-33), 3) := by decide +kernel
theorem gd_Bk_countKeptFor_40 : decode gb_Bk_countKeptFor 40 = .ok (.iload_n 2, 1) := by decide +kernel
theorem gd_Bk_countKeptFor_41 : decode gb_Bk_countKeptFor 41 = .ok (.ireturn, 1) := by decide +kernel
theorem gd_Bk_countKeptVersions_0 : decode gb_Bk_countKeptVersions 0 = .ok (.iconst 0, 1) := by decide +kernel
theorem gd_Bk_countKeptVersions_1 : decode gb_Bk_countKeptVersions 1 = .ok (.istore_n 1, 1) := by decide +kernel
theorem gd_Bk_countKeptVersions_2 : decode gb_Bk_countKeptVersions 2 = .ok (.iconst 0, 1) := by decide +kernel
theorem gd_Bk_countKeptVersions_3 : decode gb_Bk_countKeptVersions 3 = .ok (.istore_n 2, 1) := by decide +kernel
theorem gd_Bk_countKeptVersions_4 : decode gb_Bk_countKeptVersions 4 = .ok (.iload_n 2, 1) := by decide +kernel
theorem gd_Bk_countKeptVersions_5 : decode gb_Bk_countKeptVersions 5 = .ok (.aload_n 0, 1) := by decide +kernel
theorem gd_Bk_countKeptVersions_6 : decode gb_Bk_countKeptVersions 6 = .ok (.getfield 30, 3) := by decide +kernel
theorem gd_Bk_countKeptVersions_9 : decode gb_Bk_countKeptVersions 9 = .ok (.arraylength, 1) := by decide +kernel
theorem gd_Bk_countKeptVersions_10 : decode gb_Bk_countKeptVersions 10 = .ok (.if_icmp .ge 22, 3) := by decide +kernel
theorem gd_Bk_countKeptVersions_13 : decode gb_Bk_countKeptVersions 13 = .ok (.aload_n 0, 1) := by decide +kernel
theorem gd_Bk_countKeptVersions_14 : decode gb_Bk_countKeptVersions 14 = .ok (.getfield 30, 3) := by decide +kernel
theorem gd_Bk_countKeptVersions_17 : decode gb_Bk_countKeptVersions 17 = .ok (.iload_n 2, 1) := by decide +kernel
theorem gd_Bk_countKeptVersions_18 : decode gb_Bk_countKeptVersions 18 = .ok (.iaload, 1) := by decide +kernel
theorem gd_Bk_countKeptVersions_19 : decode gb_Bk_countKeptVersions 19 = .ok (.iconst (-1), 1) := by decide +kernel
theorem gd_Bk_countKeptVersions_20 : decode gb_Bk_countKeptVersions 20 = .ok (.if_icmp .eq 6, 3) := by decide +kernel
theorem gd_Bk_countKeptVersions_23 : decode gb_Bk_countKeptVersions 23 = .ok (.iinc 1 1, 3) := by decide +kernel
theorem gd_Bk_countKeptVersions_26 : decode gb_Bk_countKeptVersions 26 = .ok (.iinc 2 1, 3) := by decide +kernel
theorem gd_Bk_countKeptVersions_29 : decode gb_Bk_countKeptVersions 29 = .ok (.goto (-25), 3) := by decide +kernel
theorem gd_Bk_countKeptVersions_32 : decode gb_Bk_countKeptVersions 32 = .ok (.iload_n 1, 1) := by decide +kernel
theorem gd_Bk_countKeptVersions_33 : decode gb_Bk_countKeptVersions 33 = .ok (.ireturn, 1) := by decide +kernel
theorem gd_Bk_countUnused_0 : decode gb_Bk_countUnused 0 = .ok (.iconst 0, 1) := by decide +kernel
theorem gd_Bk_countUnused_1 : decode gb_Bk_countUnused 1 = .ok (.istore_n 1, 1) := by decide +kernel
theorem gd_Bk_countUnused_2 : decode gb_Bk_countUnused 2 = .ok (.iconst 0, 1) := by decide +kernel
theorem gd_Bk_countUnused_3 : decode gb_Bk_countUnused 3 = .ok (.istore_n 2, 1) := by decide +kernel
theorem gd_Bk_countUnused_4 : decode gb_Bk_countUnused 4 = .ok (.iload_n 2, 1) := by decide +kernel
theorem gd_Bk_countUnused_5 : decode gb_Bk_countUnused 5 = .ok (.bipush 100, 2) := by decide +kernel
theorem gd_Bk_countUnused_7 : decode gb_Bk_countUnused 7 = .ok (.if_icmp .ge 29, 3) := by decide +kernel
theorem gd_Bk_countUnused_10 : decode gb_Bk_countUnused 10 = .ok (.aload_n 0, 1) := by decide +kernel
theorem gd_Bk_countUnused_11 : decode gb_Bk_countUnused 11 = .ok (.iload_n 2, 1) := by decide +kernel
theorem gd_Bk_countUnused_12 : decode gb_Bk_countUnused 12 = .ok (.invokevirtual 64, 3) := by decide +kernel
theorem gd_Bk_countUnused_15 : decode gb_Bk_countUnused 15 = .ok (.astore_n 3, 1) := by decide +kernel
theorem gd_Bk_countUnused_16 : decode gb_Bk_countUnused 16 = .ok (.aload_n 3, 1) := by decide +kernel
theorem gd_Bk_countUnused_17 : decode gb_Bk_countUnused 17 = .ok (.ifnull 13, 3) := by decide +kernel
theorem gd_Bk_countUnused_20 : decode gb_Bk_countUnused 20 = .ok (.aload_n 3, 1) := by decide +kernel
theorem gd_Bk_countUnused_21 : decode gb_Bk_countUnused 21 = .ok (.getfield 68, 3) := by decide +kernel
theorem gd_Bk_countUnused_24 : decode gb_Bk_countUnused 24 = .ok (.ifCond .ne 6, 3) := by decide +kernel
theorem gd_Bk_countUnused_27 : decode gb_Bk_countUnused 27 = .ok (.iinc 1 1, 3) := by decide +kernel
theorem gd_Bk_countUnused_30 : decode gb_Bk_countUnused 30 = .ok (.iinc 2 1, 3) := by decide +kernel
theorem gd_Bk_countUnused_33 : decode gb_Bk_countUnused 33 = .ok (.goto (-29), 3) := by decide +kernel
theorem gd_Bk_countUnused_36 : decode gb_Bk_countUnused 36 = .ok (.iload_n 1, 1) := by decide +kernel
theorem gd_Bk_countUnused_37 : decode gb_Bk_countUnused 37 = .ok (.ireturn, 1) := by decide +kernel
theorem gd_Bk_sharedIn_0 : decode gb_Bk_sharedIn 0 = .ok (.aload_n 0, 1) := by decide +kernel
theorem gd_Bk_sharedIn_1 : decode gb_Bk_sharedIn 1 = .ok (.getfield 26, 3) := by decide +kernel
theorem gd_Bk_sharedIn_4 : decode gb_Bk_sharedIn 4 = .ok (.iload_n 1, 1) := by decide +kernel
theorem gd_Bk_sharedIn_5 : decode gb_Bk_sharedIn 5 = .ok (.invokevirtual 139, 3) := by decide +kernel
theorem gd_Bk_sharedIn_8 : decode gb_Bk_sharedIn 8 = .ok (.istore_n 2, 1) := by decide +kernel
theorem gd_Bk_sharedIn_9 : decode gb_Bk_sharedIn 9 = .ok (.aload_n 0, 1) := by decide +kernel
theorem gd_Bk_sharedIn_10 : decode gb_Bk_sharedIn 10 = .ok (.aload_n 0, 1) := by decide +kernel
theorem gd_Bk_sharedIn_11 : decode gb_Bk_sharedIn 11 = .ok (.getfield 26, 3) := by decide +kernel
theorem gd_Bk_sharedIn_14 : decode gb_Bk_sharedIn 14 = .ok (.iload_n 2, 1) := by decide +kernel
theorem gd_Bk_sharedIn_15 : decode gb_Bk_sharedIn 15 = .ok (.invokevirtual 85, 3) := by decide +kernel
theorem gd_Bk_sharedIn_18 : decode gb_Bk_sharedIn 18 = .ok (.invokevirtual 64, 3) := by decide +kernel
theorem gd_Bk_sharedIn_21 : decode gb_Bk_sharedIn 21 = .ok (.astore_n 3, 1) := by decide +kernel
theorem gd_Bk_sharedIn_22 : decode gb_Bk_sharedIn 22 = .ok (.aload_n 0, 1) := by decide +kernel
theorem gd_Bk_sharedIn_23 : decode gb_Bk_sharedIn 23 = .ok (.aload_n 0, 1) := by decide +kernel
theorem gd_Bk_sharedIn_24 : decode gb_Bk_sharedIn 24 = .ok (.getfield 26, 3) := by decide +kernel
theorem gd_Bk_sharedIn_27 : decode gb_Bk_sharedIn 27 = .ok (.iload_n 2, 1) := by decide +kernel
theorem gd_Bk_sharedIn_28 : decode gb_Bk_sharedIn 28 = .ok (.aload_n 0, 1) := by decide +kernel
theorem gd_Bk_sharedIn_29 : decode gb_Bk_sharedIn 29 = .ok (.getfield 26, 3) := by decide +kernel
theorem gd_Bk_sharedIn_32 : decode gb_Bk_sharedIn 32 = .ok (.iload_n 1, 1) := by decide +kernel
theorem gd_Bk_sharedIn_33 : decode gb_Bk_sharedIn 33 = .ok (.invokevirtual 130, 3) := by decide +kernel
theorem gd_Bk_sharedIn_36 : decode gb_Bk_sharedIn 36 = .ok (.iadd, 1) := by decide +kernel
theorem gd_Bk_sharedIn_37 : decode gb_Bk_sharedIn 37 = .ok (.iconst 1, 1) := by decide +kernel
theorem gd_Bk_sharedIn_38 : decode gb_Bk_sharedIn 38 = .ok (.isub, 1) := by decide +kernel
theorem gd_Bk_sharedIn_39 : decode gb_Bk_sharedIn 39 = .ok (.invokevirtual 85, 3) := by decide +kernel
theorem gd_Bk_sharedIn_42 : decode gb_Bk_sharedIn 42 = .ok (.invokevirtual 64, 3) := by decide +kernel
theorem gd_Bk_sharedIn_45 : decode gb_Bk_sharedIn 45 = .ok (.astore 4, 2) := by decide +kernel
theorem gd_Bk_sharedIn_47 : decode gb_Bk_sharedIn 47 = .ok (.aload_n 3, 1) := by decide +kernel
theorem gd_Bk_sharedIn_48 : decode gb_Bk_sharedIn 48 = .ok (.ifnull 20, 3) := by decide +kernel
theorem gd_Bk_sharedIn_51 : decode gb_Bk_sharedIn 51 = .ok (.aload 4, 2) := by decide +kernel
theorem gd_Bk_sharedIn_53 : decode gb_Bk_sharedIn 53 = .ok (.ifnull 15, 3) := by decide +kernel
theorem gd_Bk_sharedIn_56 : decode gb_Bk_sharedIn 56 = .ok (.aload_n 3, 1) := by decide +kernel
theorem gd_Bk_sharedIn_57 : decode gb_Bk_sharedIn 57 = .ok (.getfield 92, 3) := by decide +kernel
theorem gd_Bk_sharedIn_60 : decode gb_Bk_sharedIn 60 = .ok (.aload 4, 2) := by decide +kernel
theorem gd_Bk_sharedIn_62 : decode gb_Bk_sharedIn 62 = .ok (.getfield 92, 3) := by decide +kernel
theorem gd_Bk_sharedIn_65 : decode gb_Bk_sharedIn 65 = .ok (.if_icmp .eq 5, 3) := by decide +kernel
theorem gd_Bk_sharedIn_68 : decode gb_Bk_sharedIn 68 = .ok (.iconst 0, 1) := by decide +kernel
theorem gd_Bk_sharedIn_69 : decode gb_Bk_sharedIn 69 = .ok (.ireturn, 1) := by decide +kernel
theorem gd_Bk_sharedIn_70 : decode gb_Bk_sharedIn 70 = .ok (.aload_n 3, 1) := by decide +kernel
theorem gd_Bk_sharedIn_71 : decode gb_Bk_sharedIn 71 = .ok (.getfield 95, 3) := by decide +kernel
theorem gd_Bk_sharedIn_74 : decode gb_Bk_sharedIn 74 = .ok (.aload 4, 2) := by decide +kernel
theorem gd_Bk_sharedIn_76 : decode gb_Bk_sharedIn 76 = .ok (.getfield 95, 3) := by decide +kernel
theorem gd_Bk_sharedIn_79 : decode gb_Bk_sharedIn 79 = .ok (.invokevirtual 185, 3) := by decide +kernel
theorem gd_Bk_sharedIn_82 : decode gb_Bk_sharedIn 82 = .ok (.ireturn, 1) := by decide +kernel
theorem gd_Bk_costOf_0 : decode gb_Bk_costOf 0 = .ok (.aload_n 0, 1) := by decide +kernel
theorem gd_Bk_costOf_1 : decode gb_Bk_costOf 1 = .ok (.iload_n 1, 1) := by decide +kernel
theorem gd_Bk_costOf_2 : decode gb_Bk_costOf 2 = .ok (.invokevirtual 133, 3) := by decide +kernel
theorem gd_Bk_costOf_5 : decode gb_Bk_costOf 5 = .ok (.istore_n 2, 1) := by decide +kernel
theorem gd_Bk_costOf_6 : decode gb_Bk_costOf 6 = .ok (.aload_n 0, 1) := by decide +kernel
theorem gd_Bk_costOf_7 : decode gb_Bk_costOf 7 = .ok (.getfield 26, 3) := by decide +kernel
theorem gd_Bk_costOf_10 : decode gb_Bk_costOf 10 = .ok (.iload_n 1, 1) := by decide +kernel
theorem gd_Bk_costOf_11 : decode gb_Bk_costOf 11 = .ok (.invokevirtual 139, 3) := by decide +kernel
theorem gd_Bk_costOf_14 : decode gb_Bk_costOf 14 = .ok (.istore_n 3, 1) := by decide +kernel
theorem gd_Bk_costOf_15 : decode gb_Bk_costOf 15 = .ok (.iload_n 3, 1) := by decide +kernel
theorem gd_Bk_costOf_16 : decode gb_Bk_costOf 16 = .ok (.aload_n 0, 1) := by decide +kernel
theorem gd_Bk_costOf_17 : decode gb_Bk_costOf 17 = .ok (.getfield 26, 3) := by decide +kernel
theorem gd_Bk_costOf_20 : decode gb_Bk_costOf 20 = .ok (.iload_n 1, 1) := by decide +kernel
theorem gd_Bk_costOf_21 : decode gb_Bk_costOf 21 = .ok (.invokevirtual 130, 3) := by decide +kernel
theorem gd_Bk_costOf_24 : decode gb_Bk_costOf 24 = .ok (.iadd, 1) := by decide +kernel
theorem gd_Bk_costOf_25 : decode gb_Bk_costOf 25 = .ok (.istore 4, 2) := by decide +kernel
theorem gd_Bk_costOf_27 : decode gb_Bk_costOf 27 = .ok (.iload_n 2, 1) := by decide +kernel
theorem gd_Bk_costOf_28 : decode gb_Bk_costOf 28 = .ok (.istore 5, 2) := by decide +kernel
theorem gd_Bk_costOf_30 : decode gb_Bk_costOf 30 = .ok (.iload_n 3, 1) := by decide +kernel
theorem gd_Bk_costOf_31 : decode gb_Bk_costOf 31 = .ok (.istore 6, 2) := by decide +kernel
theorem gd_Bk_costOf_33 : decode gb_Bk_costOf 33 = .ok (.iload 6, 2) := by decide +kernel
theorem gd_Bk_costOf_35 : decode gb_Bk_costOf 35 = .ok (.iload 4, 2) := by decide +kernel
theorem gd_Bk_costOf_37 : decode gb_Bk_costOf 37 = .ok (.if_icmp .ge 44, 3) := by decide +kernel
theorem gd_Bk_costOf_40 : decode gb_Bk_costOf 40 = .ok (.aload_n 0, 1) := by decide +kernel
theorem gd_Bk_costOf_41 : decode gb_Bk_costOf 41 = .ok (.aload_n 0, 1) := by decide +kernel
theorem gd_Bk_costOf_42 : decode gb_Bk_costOf 42 = .ok (.getfield 26, 3) := by decide +kernel
theorem gd_Bk_costOf_45 : decode gb_Bk_costOf 45 = .ok (.iload 6, 2) := by decide +kernel
theorem gd_Bk_costOf_47 : decode gb_Bk_costOf 47 = .ok (.invokevirtual 85, 3) := by decide +kernel
theorem gd_Bk_costOf_50 : decode gb_Bk_costOf 50 = .ok (.invokevirtual 64, 3) := by decide +kernel
theorem gd_Bk_costOf_53 : decode gb_Bk_costOf 53 = .ok (.astore 7, 2) := by decide +kernel
theorem gd_Bk_costOf_55 : decode gb_Bk_costOf 55 = .ok (.aload 7, 2) := by decide +kernel
theorem gd_Bk_costOf_57 : decode gb_Bk_costOf 57 = .ok (.ifnull 18, 3) := by decide +kernel
theorem gd_Bk_costOf_60 : decode gb_Bk_costOf 60 = .ok (.iload 5, 2) := by decide +kernel
theorem gd_Bk_costOf_62 : decode gb_Bk_costOf 62 = .ok (.aload 7, 2) := by decide +kernel
theorem gd_Bk_costOf_64 : decode gb_Bk_costOf 64 = .ok (.getfield 95, 3) := by decide +kernel
theorem gd_Bk_costOf_67 : decode gb_Bk_costOf 67 = .ok (.getfield 42, 3) := by decide +kernel
theorem gd_Bk_costOf_70 : decode gb_Bk_costOf 70 = .ok (.iload_n 2, 1) := by decide +kernel
theorem gd_Bk_costOf_71 : decode gb_Bk_costOf 71 = .ok (.isub, 1) := by decide +kernel
theorem gd_Bk_costOf_72 : decode gb_Bk_costOf 72 = .ok (.iadd, 1) := by decide +kernel
theorem gd_Bk_costOf_73 : decode gb_Bk_costOf 73 = .ok (.istore 5, 2) := by decide +kernel
theorem gd_Bk_costOf_75 : decode gb_Bk_costOf 75 = .ok (.iinc 6 1, 3) := by decide +kernel
theorem gd_Bk_costOf_78 : decode gb_Bk_costOf 78 = .ok (.goto (-45), 3) := by decide +kernel
theorem gd_Bk_costOf_81 : decode gb_Bk_costOf 81 = .ok (.iload 5, 2) := by decide +kernel
theorem gd_Bk_costOf_83 : decode gb_Bk_costOf 83 = .ok (.ireturn, 1) := by decide +kernel
theorem gd_Bk_costOfAll_0 : decode gb_Bk_costOfAll 0 = .ok (.iconst 0, 1) := by decide +kernel
theorem gd_Bk_costOfAll_1 : decode gb_Bk_costOfAll 1 = .ok (.istore_n 1, 1) := by decide +kernel
theorem gd_Bk_costOfAll_2 : decode gb_Bk_costOfAll 2 = .ok (.iconst 0, 1) := by decide +kernel
theorem gd_Bk_costOfAll_3 : decode gb_Bk_costOfAll 3 = .ok (.istore_n 2, 1) := by decide +kernel
theorem gd_Bk_costOfAll_4 : decode gb_Bk_costOfAll 4 = .ok (.iload_n 2, 1) := by decide +kernel
theorem gd_Bk_costOfAll_5 : decode gb_Bk_costOfAll 5 = .ok (.aload_n 0, 1) := by decide +kernel
theorem gd_Bk_costOfAll_6 : decode gb_Bk_costOfAll 6 = .ok (.getfield 26, 3) := by decide +kernel
theorem gd_Bk_costOfAll_9 : decode gb_Bk_costOfAll 9 = .ok (.getfield 127, 3) := by decide +kernel
theorem gd_Bk_costOfAll_12 : decode gb_Bk_costOfAll 12 = .ok (.if_icmp .ge 17, 3) := by decide +kernel
theorem gd_Bk_costOfAll_15 : decode gb_Bk_costOfAll 15 = .ok (.iload_n 1, 1) := by decide +kernel
theorem gd_Bk_costOfAll_16 : decode gb_Bk_costOfAll 16 = .ok (.aload_n 0, 1) := by decide +kernel
theorem gd_Bk_costOfAll_17 : decode gb_Bk_costOfAll 17 = .ok (.iload_n 2, 1) := by decide +kernel
theorem gd_Bk_costOfAll_18 : decode gb_Bk_costOfAll 18 = .ok (.invokevirtual 136, 3) := by decide +kernel
theorem gd_Bk_costOfAll_21 : decode gb_Bk_costOfAll 21 = .ok (.iadd, 1) := by decide +kernel
theorem gd_Bk_costOfAll_22 : decode gb_Bk_costOfAll 22 = .ok (.istore_n 1, 1) := by decide +kernel
theorem gd_Bk_costOfAll_23 : decode gb_Bk_costOfAll 23 = .ok (.iinc 2 1, 3) := by decide +kernel
theorem gd_Bk_costOfAll_26 : decode gb_Bk_costOfAll 26 = .ok (.goto (-22), 3) := by decide +kernel
theorem gd_Bk_costOfAll_29 : decode gb_Bk_costOfAll 29 = .ok (.iload_n 1, 1) := by decide +kernel
theorem gd_Bk_costOfAll_30 : decode gb_Bk_costOfAll 30 = .ok (.ireturn, 1) := by decide +kernel
theorem gd_Lv_init_0 : decode gb_Lv_init 0 = .ok (.aload_n 0, 1) := by decide +kernel
theorem gd_Lv_init_1 : decode gb_Lv_init 1 = .ok (.invokespecial 3, 3) := by decide +kernel
theorem gd_Lv_init_4 : decode gb_Lv_init 4 = .ok (.aload_n 0, 1) := by decide +kernel
theorem gd_Lv_init_5 : decode gb_Lv_init 5 = .ok (.bipush 100, 2) := by decide +kernel
theorem gd_Lv_init_7 : decode gb_Lv_init 7 = .ok (.newarray .int, 2) := by decide +kernel
theorem gd_Lv_init_9 : decode gb_Lv_init 9 = .ok (.putfield 9, 3) := by decide +kernel
theorem gd_Lv_init_12 : decode gb_Lv_init 12 = .ok (.aload_n 0, 1) := by decide +kernel
theorem gd_Lv_init_13 : decode gb_Lv_init 13 = .ok (.bipush 100, 2) := by decide +kernel
theorem gd_Lv_init_15 : decode gb_Lv_init 15 = .ok (.newarray .int, 2) := by decide +kernel
theorem gd_Lv_init_17 : decode gb_Lv_init 17 = .ok (.putfield 15, 3) := by decide +kernel
theorem gd_Lv_init_20 : decode gb_Lv_init 20 = .ok (.return_, 1) := by decide +kernel
theorem gd_Lv_numberAt_0 : decode gb_Lv_numberAt 0 = .ok (.iload_n 1, 1) := by decide +kernel
theorem gd_Lv_numberAt_1 : decode gb_Lv_numberAt 1 = .ok (.ifCond .lt 29, 3) := by decide +kernel
theorem gd_Lv_numberAt_4 : decode gb_Lv_numberAt 4 = .ok (.iload_n 1, 1) := by decide +kernel
theorem gd_Lv_numberAt_5 : decode gb_Lv_numberAt 5 = .ok (.aload_n 0, 1) := by decide +kernel
theorem gd_Lv_numberAt_6 : decode gb_Lv_numberAt 6 = .ok (.getfield 18, 3) := by decide +kernel
theorem gd_Lv_numberAt_9 : decode gb_Lv_numberAt 9 = .ok (.if_icmp .ge 21, 3) := by decide +kernel
theorem gd_Lv_numberAt_12 : decode gb_Lv_numberAt 12 = .ok (.iload_n 1, 1) := by decide +kernel
theorem gd_Lv_numberAt_13 : decode gb_Lv_numberAt 13 = .ok (.aload_n 0, 1) := by decide +kernel
theorem gd_Lv_numberAt_14 : decode gb_Lv_numberAt 14 = .ok (.getfield 9, 3) := by decide +kernel
theorem gd_Lv_numberAt_17 : decode gb_Lv_numberAt 17 = .ok (.arraylength, 1) := by decide +kernel
theorem gd_Lv_numberAt_18 : decode gb_Lv_numberAt 18 = .ok (.if_icmp .ge 12, 3) := by decide +kernel
theorem gd_Lv_numberAt_21 : decode gb_Lv_numberAt 21 = .ok (.aload_n 0, 1) := by decide +kernel
theorem gd_Lv_numberAt_22 : decode gb_Lv_numberAt 22 = .ok (.getfield 9, 3) := by decide +kernel
theorem gd_Lv_numberAt_25 : decode gb_Lv_numberAt 25 = .ok (.iload_n 1, 1) := by decide +kernel
theorem gd_Lv_numberAt_26 : decode gb_Lv_numberAt 26 = .ok (.iaload, 1) := by decide +kernel
theorem gd_Lv_numberAt_27 : decode gb_Lv_numberAt 27 = .ok (.goto 4, 3) := by decide +kernel
theorem gd_Lv_numberAt_30 : decode gb_Lv_numberAt 30 = .ok (.iconst (-1), 1) := by decide +kernel
theorem gd_Lv_numberAt_31 : decode gb_Lv_numberAt 31 = .ok (.ireturn, 1) := by decide +kernel
theorem gd_Lv_placeOf_0 : decode gb_Lv_placeOf 0 = .ok (.iconst 0, 1) := by decide +kernel
theorem gd_Lv_placeOf_1 : decode gb_Lv_placeOf 1 = .ok (.istore_n 2, 1) := by decide +kernel
theorem gd_Lv_placeOf_2 : decode gb_Lv_placeOf 2 = .ok (.iload_n 2, 1) := by decide +kernel
theorem gd_Lv_placeOf_3 : decode gb_Lv_placeOf 3 = .ok (.aload_n 0, 1) := by decide +kernel
theorem gd_Lv_placeOf_4 : decode gb_Lv_placeOf 4 = .ok (.getfield 18, 3) := by decide +kernel
theorem gd_Lv_placeOf_7 : decode gb_Lv_placeOf 7 = .ok (.if_icmp .ge 20, 3) := by decide +kernel
theorem gd_Lv_placeOf_10 : decode gb_Lv_placeOf 10 = .ok (.aload_n 0, 1) := by decide +kernel
theorem gd_Lv_placeOf_11 : decode gb_Lv_placeOf 11 = .ok (.iload_n 2, 1) := by decide +kernel
theorem gd_Lv_placeOf_12 : decode gb_Lv_placeOf 12 = .ok (.invokevirtual 22, 3) := by decide +kernel
theorem gd_Lv_placeOf_15 : decode gb_Lv_placeOf 15 = .ok (.iload_n 1, 1) := by decide +kernel
theorem gd_Lv_placeOf_16 : decode gb_Lv_placeOf 16 = .ok (.if_icmp .ne 5, 3) := by decide +kernel
theorem gd_Lv_placeOf_19 : decode gb_Lv_placeOf 19 = .ok (.iload_n 2, 1) := by decide +kernel
theorem gd_Lv_placeOf_20 : decode gb_Lv_placeOf 20 = .ok (.ireturn, 1) := by decide +kernel
theorem gd_Lv_placeOf_21 : decode gb_Lv_placeOf 21 = .ok (.iinc 2 1, 3) := by decide +kernel
theorem gd_Lv_placeOf_24 : decode gb_Lv_placeOf 24 = .ok (.goto (-22), 3) := by decide +kernel
theorem gd_Lv_placeOf_27 : decode gb_Lv_placeOf 27 = .ok (.iconst (-1), 1) := by decide +kernel
theorem gd_Lv_placeOf_28 : decode gb_Lv_placeOf 28 = .ok (.ireturn, 1) := by decide +kernel
theorem gd_Lv_sizeOf_0 : decode gb_Lv_sizeOf 0 = .ok (.iload_n 1, 1) := by decide +kernel
theorem gd_Lv_sizeOf_1 : decode gb_Lv_sizeOf 1 = .ok (.ifCond .lt 29, 3) := by decide +kernel
theorem gd_Lv_sizeOf_4 : decode gb_Lv_sizeOf 4 = .ok (.iload_n 1, 1) := by decide +kernel
theorem gd_Lv_sizeOf_5 : decode gb_Lv_sizeOf 5 = .ok (.aload_n 0, 1) := by decide +kernel
theorem gd_Lv_sizeOf_6 : decode gb_Lv_sizeOf 6 = .ok (.getfield 26, 3) := by decide +kernel
theorem gd_Lv_sizeOf_9 : decode gb_Lv_sizeOf 9 = .ok (.if_icmp .ge 21, 3) := by decide +kernel
theorem gd_Lv_sizeOf_12 : decode gb_Lv_sizeOf 12 = .ok (.iload_n 1, 1) := by decide +kernel
theorem gd_Lv_sizeOf_13 : decode gb_Lv_sizeOf 13 = .ok (.aload_n 0, 1) := by decide +kernel
theorem gd_Lv_sizeOf_14 : decode gb_Lv_sizeOf 14 = .ok (.getfield 15, 3) := by decide +kernel
theorem gd_Lv_sizeOf_17 : decode gb_Lv_sizeOf 17 = .ok (.arraylength, 1) := by decide +kernel
theorem gd_Lv_sizeOf_18 : decode gb_Lv_sizeOf 18 = .ok (.if_icmp .ge 12, 3) := by decide +kernel
theorem gd_Lv_sizeOf_21 : decode gb_Lv_sizeOf 21 = .ok (.aload_n 0, 1) := by decide +kernel
theorem gd_Lv_sizeOf_22 : decode gb_Lv_sizeOf 22 = .ok (.getfield 15, 3) := by decide +kernel
theorem gd_Lv_sizeOf_25 : decode gb_Lv_sizeOf 25 = .ok (.iload_n 1, 1) := by decide +kernel
theorem gd_Lv_sizeOf_26 : decode gb_Lv_sizeOf 26 = .ok (.iaload, 1) := by decide +kernel
theorem gd_Lv_sizeOf_27 : decode gb_Lv_sizeOf 27 = .ok (.goto 4, 3) := by decide +kernel
theorem gd_Lv_sizeOf_30 : decode gb_Lv_sizeOf 30 = .ok (.iconst 0, 1) := by decide +kernel
theorem gd_Lv_sizeOf_31 : decode gb_Lv_sizeOf 31 = .ok (.ireturn, 1) := by decide +kernel
theorem gd_Lv_startOf_0 : decode gb_Lv_startOf 0 = .ok (.iconst 0, 1) := by decide +kernel
theorem gd_Lv_startOf_1 : decode gb_Lv_startOf 1 = .ok (.istore_n 2, 1) := by decide +kernel
theorem gd_Lv_startOf_2 : decode gb_Lv_startOf 2 = .ok (.iconst 0, 1) := by decide +kernel
theorem gd_Lv_startOf_3 : decode gb_Lv_startOf 3 = .ok (.istore_n 3, 1) := by decide +kernel
theorem gd_Lv_startOf_4 : decode gb_Lv_startOf 4 = .ok (.iload_n 3, 1) := by decide +kernel
theorem gd_Lv_startOf_5 : decode gb_Lv_startOf 5 = .ok (.iload_n 1, 1) := by decide +kernel
theorem gd_Lv_startOf_6 : decode gb_Lv_startOf 6 = .ok (.if_icmp .ge 25, 3) := by decide +kernel
theorem gd_Lv_startOf_9 : decode gb_Lv_startOf 9 = .ok (.iload_n 3, 1) := by decide +kernel
theorem gd_Lv_startOf_10 : decode gb_Lv_startOf 10 = .ok (.aload_n 0, 1) := by decide +kernel
theorem gd_Lv_startOf_11 : decode gb_Lv_startOf 11 = .ok (.getfield 26, 3) := by decide +kernel
theorem gd_Lv_startOf_14 : decode gb_Lv_startOf 14 = .ok (.if_icmp .ge 17, 3) := by decide +kernel
theorem gd_Lv_startOf_17 : decode gb_Lv_startOf 17 = .ok (.iload_n 2, 1) := by decide +kernel
theorem gd_Lv_startOf_18 : decode gb_Lv_startOf 18 = .ok (.aload_n 0, 1) := by decide +kernel
theorem gd_Lv_startOf_19 : decode gb_Lv_startOf 19 = .ok (.iload_n 3, 1) := by decide +kernel
theorem gd_Lv_startOf_20 : decode gb_Lv_startOf 20 = .ok (.invokevirtual 29, 3) := by decide +kernel
theorem gd_Lv_startOf_23 : decode gb_Lv_startOf 23 = .ok (.iadd, 1) := by decide +kernel
theorem gd_Lv_startOf_24 : decode gb_Lv_startOf 24 = .ok (.istore_n 2, 1) := by decide +kernel
theorem gd_Lv_startOf_25 : decode gb_Lv_startOf 25 = .ok (.iinc 3 1, 3) := by decide +kernel
theorem gd_Lv_startOf_28 : decode gb_Lv_startOf 28 = .ok (.goto (-24), 3) := by decide +kernel
theorem gd_Lv_startOf_31 : decode gb_Lv_startOf 31 = .ok (.iload_n 2, 1) := by decide +kernel
theorem gd_Lv_startOf_32 : decode gb_Lv_startOf 32 = .ok (.ireturn, 1) := by decide +kernel
theorem gd_Lv_insert_0 : decode gb_Lv_insert 0 = .ok (.iload_n 1, 1) := by decide +kernel
theorem gd_Lv_insert_1 : decode gb_Lv_insert 1 = .ok (.ifCond .lt 23, 3) := by decide +kernel
theorem gd_Lv_insert_4 : decode gb_Lv_insert 4 = .ok (.iload_n 1, 1) := by decide +kernel
theorem gd_Lv_insert_5 : decode gb_Lv_insert 5 = .ok (.aload_n 0, 1) := by decide +kernel
theorem gd_Lv_insert_6 : decode gb_Lv_insert 6 = .ok (.getfield 18, 3) := by decide +kernel
theorem gd_Lv_insert_9 : decode gb_Lv_insert 9 = .ok (.if_icmp .gt 15, 3) := by decide +kernel
theorem gd_Lv_insert_12 : decode gb_Lv_insert 12 = .ok (.aload_n 0, 1) := by decide +kernel
theorem gd_Lv_insert_13 : decode gb_Lv_insert 13 = .ok (.getfield 18, 3) := by decide +kernel
theorem gd_Lv_insert_16 : decode gb_Lv_insert 16 = .ok (.aload_n 0, 1) := by decide +kernel
theorem gd_Lv_insert_17 : decode gb_Lv_insert 17 = .ok (.getfield 9, 3) := by decide +kernel
theorem gd_Lv_insert_20 : decode gb_Lv_insert 20 = .ok (.arraylength, 1) := by decide +kernel
theorem gd_Lv_insert_21 : decode gb_Lv_insert 21 = .ok (.if_icmp .lt 4, 3) := by decide +kernel
theorem gd_Lv_insert_24 : decode gb_Lv_insert 24 = .ok (.return_, 1) := by decide +kernel
theorem gd_Lv_insert_25 : decode gb_Lv_insert 25 = .ok (.aload_n 0, 1) := by decide +kernel
theorem gd_Lv_insert_26 : decode gb_Lv_insert 26 = .ok (.iload_n 1, 1) := by decide +kernel
theorem gd_Lv_insert_27 : decode gb_Lv_insert 27 = .ok (.invokevirtual 32, 3) := by decide +kernel
theorem gd_Lv_insert_30 : decode gb_Lv_insert 30 = .ok (.istore_n 3, 1) := by decide +kernel
theorem gd_Lv_insert_31 : decode gb_Lv_insert 31 = .ok (.aload_n 0, 1) := by decide +kernel
