theorem gd_Md_init_0 : decode gb_Md_init 0 = .ok (.aload_n 0, 1) := by decide +kernel
theorem gd_Md_init_1 : decode gb_Md_init 1 = .ok (.invokespecial 1, 3) := by decide +kernel
theorem gd_Md_init_4 : decode gb_Md_init 4 = .ok (.aload_n 0, 1) := by decide +kernel
theorem gd_Md_init_5 : decode gb_Md_init 5 = .ok (.bipush 16, 2) := by decide +kernel
theorem gd_Md_init_7 : decode gb_Md_init 7 = .ok (.newarray .int, 2) := by decide +kernel
theorem gd_Md_init_9 : decode gb_Md_init 9 = .ok (.putfield 7, 3) := by decide +kernel
theorem gd_Md_init_12 : decode gb_Md_init 12 = .ok (.aload_n 0, 1) := by decide +kernel
theorem gd_Md_init_13 : decode gb_Md_init 13 = .ok (.bipush 100, 2) := by decide +kernel
theorem gd_Md_init_15 : decode gb_Md_init 15 = .ok (.newarray .boolean, 2) := by decide +kernel
theorem gd_Md_init_17 : decode gb_Md_init 17 = .ok (.putfield 13, 3) := by decide +kernel
theorem gd_Md_init_20 : decode gb_Md_init 20 = .ok (.aload_n 0, 1) := by decide +kernel
theorem gd_Md_init_21 : decode gb_Md_init 21 = .ok (.bipush 100, 2) := by decide +kernel
theorem gd_Md_init_23 : decode gb_Md_init 23 = .ok (.newarray .int, 2) := by decide +kernel
theorem gd_Md_init_25 : decode gb_Md_init 25 = .ok (.putfield 17, 3) := by decide +kernel
theorem gd_Md_init_28 : decode gb_Md_init 28 = .ok (.aload_n 0, 1) := by decide +kernel
theorem gd_Md_init_29 : decode gb_Md_init 29 = .ok (.bipush 100, 2) := by decide +kernel
theorem gd_Md_init_31 : decode gb_Md_init 31 = .ok (.newarray .int, 2) := by decide +kernel
theorem gd_Md_init_33 : decode gb_Md_init 33 = .ok (.putfield 20, 3) := by decide +kernel
theorem gd_Md_init_36 : decode gb_Md_init 36 = .ok (.aload_n 0, 1) := by decide +kernel
theorem gd_Md_init_37 : decode gb_Md_init 37 = .ok (.bipush 100, 2) := by decide +kernel
theorem gd_Md_init_39 : decode gb_Md_init 39 = .ok (.newarray .int, 2) := by decide +kernel
theorem gd_Md_init_41 : decode gb_Md_init 41 = .ok (.putfield 23, 3) := by decide +kernel
theorem gd_Md_init_44 : decode gb_Md_init 44 = .ok (.aload_n 0, 1) := by decide +kernel
theorem gd_Md_init_45 : decode gb_Md_init 45 = .ok (.sipush 1600, 3) := by decide +kernel
theorem gd_Md_init_48 : decode gb_Md_init 48 = .ok (.newarray .int, 2) := by decide +kernel
theorem gd_Md_init_50 : decode gb_Md_init 50 = .ok (.putfield 26, 3) := by decide +kernel
theorem gd_Md_init_53 : decode gb_Md_init 53 = .ok (.aload_n 0, 1) := by decide +kernel
theorem gd_Md_init_54 : decode gb_Md_init 54 = .ok (.bipush 101, 2) := by decide +kernel
theorem gd_Md_init_56 : decode gb_Md_init 56 = .ok (.newarray .int, 2) := by decide +kernel
theorem gd_Md_init_58 : decode gb_Md_init 58 = .ok (.putfield 29, 3) := by decide +kernel
theorem gd_Md_init_61 : decode gb_Md_init 61 = .ok (.aload_n 0, 1) := by decide +kernel
theorem gd_Md_init_62 : decode gb_Md_init 62 = .ok (.bipush 102, 2) := by decide +kernel
theorem gd_Md_init_64 : decode gb_Md_init 64 = .ok (.newarray .int, 2) := by decide +kernel
theorem gd_Md_init_66 : decode gb_Md_init 66 = .ok (.putfield 32, 3) := by decide +kernel
theorem gd_Md_init_69 : decode gb_Md_init 69 = .ok (.aload_n 0, 1) := by decide +kernel
theorem gd_Md_init_70 : decode gb_Md_init 70 = .ok (.bipush 6, 2) := by decide +kernel
theorem gd_Md_init_72 : decode gb_Md_init 72 = .ok (.newarray .int, 2) := by decide +kernel
theorem gd_Md_init_74 : decode gb_Md_init 74 = .ok (.putfield 35, 3) := by decide +kernel
theorem gd_Md_init_77 : decode gb_Md_init 77 = .ok (.aload_n 0, 1) := by decide +kernel
theorem gd_Md_init_78 : decode gb_Md_init 78 = .ok (.sipush 600, 3) := by decide +kernel
theorem gd_Md_init_81 : decode gb_Md_init 81 = .ok (.newarray .boolean, 2) := by decide +kernel
theorem gd_Md_init_83 : decode gb_Md_init 83 = .ok (.putfield 38, 3) := by decide +kernel
theorem gd_Md_init_86 : decode gb_Md_init 86 = .ok (.aload_n 0, 1) := by decide +kernel
theorem gd_Md_init_87 : decode gb_Md_init 87 = .ok (.bipush 100, 2) := by decide +kernel
theorem gd_Md_init_89 : decode gb_Md_init 89 = .ok (.newarray .int, 2) := by decide +kernel
theorem gd_Md_init_91 : decode gb_Md_init 91 = .ok (.putfield 41, 3) := by decide +kernel
theorem gd_Md_init_94 : decode gb_Md_init 94 = .ok (.aload_n 0, 1) := by decide +kernel
theorem gd_Md_init_95 : decode gb_Md_init 95 = .ok (.iconst 0, 1) := by decide +kernel
theorem gd_Md_init_96 : decode gb_Md_init 96 = .ok (.putfield 44, 3) := by decide +kernel
theorem gd_Md_init_99 : decode gb_Md_init 99 = .ok (.return_, 1) := by decide +kernel
theorem gd_Md_in_0 : decode gb_Md_in 0 = .ok (.iload_n 0, 1) := by decide +kernel
theorem gd_Md_in_1 : decode gb_Md_in 1 = .ok (.iload_n 1, 1) := by decide +kernel
theorem gd_Md_in_2 : decode gb_Md_in 2 = .ok (.if_icmp .lt 12, 3) := by decide +kernel
theorem gd_Md_in_5 : decode gb_Md_in 5 = .ok (.iload_n 0, 1) := by decide +kernel
theorem gd_Md_in_6 : decode gb_Md_in 6 = .ok (.iload_n 2, 1) := by decide +kernel
theorem gd_Md_in_7 : decode gb_Md_in 7 = .ok (.if_icmp .gt 7, 3) := by decide +kernel
theorem gd_Md_in_10 : decode gb_Md_in 10 = .ok (.iconst 1, 1) := by decide +kernel
theorem gd_Md_in_11 : decode gb_Md_in 11 = .ok (.goto 4, 3) := by decide +kernel
theorem gd_Md_in_14 : decode gb_Md_in 14 = .ok (.iconst 0, 1) := by decide +kernel
theorem gd_Md_in_15 : decode gb_Md_in 15 = .ok (.ireturn, 1) := by decide +kernel
theorem gd_Md_type_0 : decode gb_Md_type 0 = .ok (.iload_n 3, 1) := by decide +kernel
theorem gd_Md_type_1 : decode gb_Md_type 1 = .ok (.iconst 1, 1) := by decide +kernel
theorem gd_Md_type_2 : decode gb_Md_type 2 = .ok (.bipush 8, 2) := by decide +kernel
theorem gd_Md_type_4 : decode gb_Md_type 4 = .ok (.invokestatic 48, 3) := by decide +kernel
theorem gd_Md_type_7 : decode gb_Md_type 7 = .ok (.istore 4, 2) := by decide +kernel
theorem gd_Md_type_9 : decode gb_Md_type 9 = .ok (.iconst 0, 1) := by decide +kernel
theorem gd_Md_type_10 : decode gb_Md_type 10 = .ok (.istore 5, 2) := by decide +kernel
theorem gd_Md_type_12 : decode gb_Md_type 12 = .ok (.iload 5, 2) := by decide +kernel
theorem gd_Md_type_14 : decode gb_Md_type 14 = .ok (.iload_n 3, 1) := by decide +kernel
theorem gd_Md_type_15 : decode gb_Md_type 15 = .ok (.if_icmp .ge 35, 3) := by decide +kernel
theorem gd_Md_type_18 : decode gb_Md_type 18 = .ok (.iload 4, 2) := by decide +kernel
theorem gd_Md_type_20 : decode gb_Md_type 20 = .ok (.ifCond .eq 30, 3) := by decide +kernel
theorem gd_Md_type_23 : decode gb_Md_type 23 = .ok (.lload_n 1, 1) := by decide +kernel
theorem gd_Md_type_24 : decode gb_Md_type 24 = .ok (.bipush 8, 2) := by decide +kernel
theorem gd_Md_type_26 : decode gb_Md_type 26 = .ok (.iload 5, 2) := by decide +kernel
theorem gd_Md_type_28 : decode gb_Md_type 28 = .ok (.imul, 1) := by decide +kernel
theorem gd_Md_type_29 : decode gb_Md_type 29 = .ok (.lshr, 1) := by decide +kernel
theorem gd_Md_type_30 : decode gb_Md_type 30 = .ok (.ldc2_w 52, 3) := by decide +kernel
theorem gd_Md_type_33 : decode gb_Md_type 33 = .ok (.land, 1) := by decide +kernel
theorem gd_Md_type_34 : decode gb_Md_type 34 = .ok (.l2i, 1) := by decide +kernel
theorem gd_Md_type_35 : decode gb_Md_type 35 = .ok (.bipush 33, 2) := by decide +kernel
theorem gd_Md_type_37 : decode gb_Md_type 37 = .ok (.bipush 126, 2) := by decide +kernel
theorem gd_Md_type_39 : decode gb_Md_type 39 = .ok (.invokestatic 48, 3) := by decide +kernel
theorem gd_Md_type_42 : decode gb_Md_type 42 = .ok (.istore 4, 2) := by decide +kernel
theorem gd_Md_type_44 : decode gb_Md_type 44 = .ok (.iinc 5 1, 3) := by decide +kernel
theorem gd_Md_type_47 : decode gb_Md_type 47 = .ok (.goto (-35), 3) := by decide +kernel
theorem gd_Md_type_50 : decode gb_Md_type 50 = .ok (.iload 4, 2) := by decide +kernel
theorem gd_Md_type_52 : decode gb_Md_type 52 = .ok (.ifCond .ne 5, 3) := by decide +kernel
theorem gd_Md_type_55 : decode gb_Md_type 55 = .ok (.iconst (-1), 1) := by decide +kernel
theorem gd_Md_type_56 : decode gb_Md_type 56 = .ok (.ireturn, 1) := by decide +kernel
theorem gd_Md_type_57 : decode gb_Md_type 57 = .ok (.aload_n 0, 1) := by decide +kernel
theorem gd_Md_type_58 : decode gb_Md_type 58 = .ok (.getfield 54, 3) := by decide +kernel
theorem gd_Md_type_61 : decode gb_Md_type 61 = .ok (.iload_n 3, 1) := by decide +kernel
theorem gd_Md_type_62 : decode gb_Md_type 62 = .ok (.iadd, 1) := by decide +kernel
theorem gd_Md_type_63 : decode gb_Md_type 63 = .ok (.bipush 16, 2) := by decide +kernel
theorem gd_Md_type_65 : decode gb_Md_type 65 = .ok (.if_icmp .le 6, 3) := by decide +kernel
theorem gd_Md_type_68 : decode gb_Md_type 68 = .ok (.bipush (-3), 2) := by decide +kernel
theorem gd_Md_type_70 : decode gb_Md_type 70 = .ok (.ireturn, 1) := by decide +kernel
theorem gd_Md_type_71 : decode gb_Md_type 71 = .ok (.iload_n 3, 1) := by decide +kernel
theorem gd_Md_type_72 : decode gb_Md_type 72 = .ok (.iconst 1, 1) := by decide +kernel
theorem gd_Md_type_73 : decode gb_Md_type 73 = .ok (.isub, 1) := by decide +kernel
theorem gd_Md_type_74 : decode gb_Md_type 74 = .ok (.istore 5, 2) := by decide +kernel
theorem gd_Md_type_76 : decode gb_Md_type 76 = .ok (.iload 5, 2) := by decide +kernel
theorem gd_Md_type_78 : decode gb_Md_type 78 = .ok (.ifCond .lt 40, 3) := by decide +kernel
theorem gd_Md_type_81 : decode gb_Md_type 81 = .ok (.aload_n 0, 1) := by decide +kernel
theorem gd_Md_type_82 : decode gb_Md_type 82 = .ok (.getfield 7, 3) := by decide +kernel
theorem gd_Md_type_85 : decode gb_Md_type 85 = .ok (.aload_n 0, 1) := by decide +kernel
theorem gd_Md_type_86 : decode gb_Md_type 86 = .ok (.getfield 54, 3) := by decide +kernel
theorem gd_Md_type_89 : decode gb_Md_type 89 = .ok (.lload_n 1, 1) := by decide +kernel
theorem gd_Md_type_90 : decode gb_Md_type 90 = .ok (.bipush 8, 2) := by decide +kernel
theorem gd_Md_type_92 : decode gb_Md_type 92 = .ok (.iload 5, 2) := by decide +kernel
theorem gd_Md_type_94 : decode gb_Md_type 94 = .ok (.imul, 1) := by decide +kernel
theorem gd_Md_type_95 : decode gb_Md_type 95 = .ok (.lshr, 1) := by decide +kernel
theorem gd_Md_type_96 : decode gb_Md_type 96 = .ok (.ldc2_w 52, 3) := by decide +kernel
theorem gd_Md_type_99 : decode gb_Md_type 99 = .ok (.land, 1) := by decide +kernel
theorem gd_Md_type_100 : decode gb_Md_type 100 = .ok (.l2i, 1) := by decide +kernel
theorem gd_Md_type_101 : decode gb_Md_type 101 = .ok (.iastore, 1) := by decide +kernel
theorem gd_Md_type_102 : decode gb_Md_type 102 = .ok (.aload_n 0, 1) := by decide +kernel
theorem gd_Md_type_103 : decode gb_Md_type 103 = .ok (.dup, 1) := by decide +kernel
theorem gd_Md_type_104 : decode gb_Md_type 104 = .ok (.getfield 54, 3) := by decide +kernel
theorem gd_Md_type_107 : decode gb_Md_type 107 = .ok (.iconst 1, 1) := by decide +kernel
theorem gd_Md_type_108 : decode gb_Md_type 108 = .ok (.iadd, 1) := by decide +kernel
theorem gd_Md_type_109 : decode gb_Md_type 109 = .ok (.putfield 54, 3) := by decide +kernel
theorem gd_Md_type_112 : decode gb_Md_type 112 = .ok (.iinc 5 (-1), 3) := by decide +kernel
theorem gd_Md_type_115 : decode gb_Md_type 115 = .ok (.goto (-39), 3) := by decide +kernel
theorem gd_Md_type_118 : decode gb_Md_type 118 = .ok (.aload_n 0, 1) := by decide +kernel
theorem gd_Md_type_119 : decode gb_Md_type 119 = .ok (.getfield 54, 3) := by decide +kernel
theorem gd_Md_type_122 : decode gb_Md_type 122 = .ok (.ireturn, 1) := by decide +kernel
theorem gd_Md_clear_0 : decode gb_Md_clear 0 = .ok (.aload_n 0, 1) := by decide +kernel
theorem gd_Md_clear_1 : decode gb_Md_clear 1 = .ok (.getfield 54, 3) := by decide +kernel
theorem gd_Md_clear_4 : decode gb_Md_clear 4 = .ok (.istore_n 1, 1) := by decide +kernel
theorem gd_Md_clear_5 : decode gb_Md_clear 5 = .ok (.aload_n 0, 1) := by decide +kernel
theorem gd_Md_clear_6 : decode gb_Md_clear 6 = .ok (.iconst 0, 1) := by decide +kernel
theorem gd_Md_clear_7 : decode gb_Md_clear 7 = .ok (.putfield 54, 3) := by decide +kernel
theorem gd_Md_clear_10 : decode gb_Md_clear 10 = .ok (.iload_n 1, 1) := by decide +kernel
theorem gd_Md_clear_11 : decode gb_Md_clear 11 = .ok (.ireturn, 1) := by decide +kernel
theorem gd_Md_against_0 : decode gb_Md_against 0 = .ok (.aload_n 0, 1) := by decide +kernel
theorem gd_Md_against_1 : decode gb_Md_against 1 = .ok (.getfield 17, 3) := by decide +kernel
theorem gd_Md_against_4 : decode gb_Md_against 4 = .ok (.iload_n 1, 1) := by decide +kernel
theorem gd_Md_against_5 : decode gb_Md_against 5 = .ok (.iaload, 1) := by decide +kernel
theorem gd_Md_against_6 : decode gb_Md_against 6 = .ok (.iload_n 2, 1) := by decide +kernel
theorem gd_Md_against_7 : decode gb_Md_against 7 = .ok (.if_icmp .eq 12, 3) := by decide +kernel
theorem gd_Md_against_10 : decode gb_Md_against 10 = .ok (.aload_n 0, 1) := by decide +kernel
theorem gd_Md_against_11 : decode gb_Md_against 11 = .ok (.getfield 17, 3) := by decide +kernel
theorem gd_Md_against_14 : decode gb_Md_against 14 = .ok (.iload_n 1, 1) := by decide +kernel
theorem gd_Md_against_15 : decode gb_Md_against 15 = .ok (.iaload, 1) := by decide +kernel
theorem gd_Md_against_16 : decode gb_Md_against 16 = .ok (.iload_n 2, 1) := by decide +kernel
theorem gd_Md_against_17 : decode gb_Md_against 17 = .ok (.isub, 1) := by decide +kernel
theorem gd_Md_against_18 : decode gb_Md_against 18 = .ok (.ireturn, 1) := by decide +kernel
theorem gd_Md_against_19 : decode gb_Md_against 19 = .ok (.iconst 0, 1) := by decide +kernel
theorem gd_Md_against_20 : decode gb_Md_against 20 = .ok (.istore_n 3, 1) := by decide +kernel
theorem gd_Md_against_21 : decode gb_Md_against 21 = .ok (.iload_n 3, 1) := by decide +kernel
theorem gd_Md_against_22 : decode gb_Md_against 22 = .ok (.aload_n 0, 1) := by decide +kernel
theorem gd_Md_against_23 : decode gb_Md_against 23 = .ok (.getfield 23, 3) := by decide +kernel
theorem gd_Md_against_26 : decode gb_Md_against 26 = .ok (.iload_n 1, 1) := by decide +kernel
theorem gd_Md_against_27 : decode gb_Md_against 27 = .ok (.iaload, 1) := by decide +kernel
theorem gd_Md_against_28 : decode gb_Md_against 28 = .ok (.if_icmp .ge 45, 3) := by decide +kernel
theorem gd_Md_against_31 : decode gb_Md_against 31 = .ok (.iload_n 3, 1) := by decide +kernel
theorem gd_Md_against_32 : decode gb_Md_against 32 = .ok (.aload_n 0, 1) := by decide +kernel
theorem gd_Md_against_33 : decode gb_Md_against 33 = .ok (.getfield 54, 3) := by decide +kernel
theorem gd_Md_against_36 : decode gb_Md_against 36 = .ok (.if_icmp .ge 37, 3) := by decide +kernel
theorem gd_Md_against_39 : decode gb_Md_against 39 = .ok (.aload_n 0, 1) := by decide +kernel
theorem gd_Md_against_40 : decode gb_Md_against 40 = .ok (.getfield 26, 3) := by decide +kernel
theorem gd_Md_against_43 : decode gb_Md_against 43 = .ok (.bipush 16, 2) := by decide +kernel
theorem gd_Md_against_45 : decode gb_Md_against 45 = .ok (.iload_n 1, 1) := by decide +kernel
theorem gd_Md_against_46 : decode gb_Md_against 46 = .ok (.imul, 1) := by decide +kernel
theorem gd_Md_against_47 : decode gb_Md_against 47 = .ok (.iload_n 3, 1) := by decide +kernel
theorem gd_Md_against_48 : decode gb_Md_against 48 = .ok (.iadd, 1) := by decide +kernel
theorem gd_Md_against_49 : decode gb_Md_against 49 = .ok (.iaload, 1) := by decide +kernel
theorem gd_Md_against_50 : decode gb_Md_against 50 = .ok (.aload_n 0, 1) := by decide +kernel
theorem gd_Md_against_51 : decode gb_Md_against 51 = .ok (.getfield 7, 3) := by decide +kernel
theorem gd_Md_against_54 : decode gb_Md_against 54 = .ok (.iload_n 3, 1) := by decide +kernel
theorem gd_Md_against_55 : decode gb_Md_against 55 = .ok (.iaload, 1) := by decide +kernel
theorem gd_Md_against_56 : decode gb_Md_against 56 = .ok (.isub, 1) := by decide +kernel
theorem gd_Md_against_57 : decode gb_Md_against 57 = .ok (.istore 4, 2) := by decide +kernel
theorem gd_Md_against_59 : decode gb_Md_against 59 = .ok (.iload 4, 2) := by decide +kernel
theorem gd_Md_against_61 : decode gb_Md_against 61 = .ok (.ifCond .eq 6, 3) := by decide +kernel
theorem gd_Md_against_64 : decode gb_Md_against 64 = .ok (.iload 4, 2) := by decide +kernel
theorem gd_Md_against_66 : decode gb_Md_against 66 = .ok (.ireturn, 1) := by decide +kernel
theorem gd_Md_against_67 : decode gb_Md_against 67 = .ok (.iinc 3 1, 3) := by decide +kernel
theorem gd_Md_against_70 : decode gb_Md_against 70 = .ok (.goto (-49), 3) := by decide +kernel
theorem gd_Md_against_73 : decode gb_Md_against 73 = .ok (.aload_n 0, 1) := by decide +kernel
theorem gd_Md_against_74 : decode gb_Md_against 74 = .ok (.getfield 23, 3) := by decide +kernel
theorem gd_Md_against_77 : decode gb_Md_against 77 = .ok (.iload_n 1, 1) := by decide +kernel
theorem gd_Md_against_78 : decode gb_Md_against 78 = .ok (.iaload, 1) := by decide +kernel
theorem gd_Md_against_79 : decode gb_Md_against 79 = .ok (.aload_n 0, 1) := by decide +kernel
theorem gd_Md_against_80 : decode gb_Md_against 80 = .ok (.getfield 54, 3) := by decide +kernel
theorem gd_Md_against_83 : decode gb_Md_against 83 = .ok (.isub, 1) := by decide +kernel
theorem gd_Md_against_84 : decode gb_Md_against 84 = .ok (.ireturn, 1) := by decide +kernel
theorem gd_Md_before_0 : decode gb_Md_before 0 = .ok (.iconst 0, 1) := by decide +kernel
theorem gd_Md_before_1 : decode gb_Md_before 1 = .ok (.istore_n 2, 1) := by decide +kernel
theorem gd_Md_before_2 : decode gb_Md_before 2 = .ok (.iconst 0, 1) := by decide +kernel
theorem gd_Md_before_3 : decode gb_Md_before 3 = .ok (.istore_n 3, 1) := by decide +kernel
theorem gd_Md_before_4 : decode gb_Md_before 4 = .ok (.iload_n 3, 1) := by decide +kernel
theorem gd_Md_before_5 : decode gb_Md_before 5 = .ok (.aload_n 0, 1) := by decide +kernel
theorem gd_Md_before_6 : decode gb_Md_before 6 = .ok (.getfield 44, 3) := by decide +kernel
theorem gd_Md_before_9 : decode gb_Md_before 9 = .ok (.if_icmp .ge 31, 3) := by decide +kernel
theorem gd_Md_before_12 : decode gb_Md_before 12 = .ok (.iload_n 2, 1) := by decide +kernel
theorem gd_Md_before_13 : decode gb_Md_before 13 = .ok (.aload_n 0, 1) := by decide +kernel
theorem gd_Md_before_14 : decode gb_Md_before 14 = .ok (.aload_n 0, 1) := by decide +kernel
theorem gd_Md_before_15 : decode gb_Md_before 15 = .ok (.getfield 29, 3) := by decide +kernel
theorem gd_Md_before_18 : decode gb_Md_before 18 = .ok (.iload_n 3, 1) := by decide +kernel
theorem gd_Md_before_19 : decode gb_Md_before 19 = .ok (.iaload, 1) := by decide +kernel
theorem gd_Md_before_20 : decode gb_Md_before 20 = .ok (.iload_n 1, 1) := by decide +kernel
theorem gd_Md_before_21 : decode gb_Md_before 21 = .ok (.invokevirtual 57, 3) := by decide +kernel
theorem gd_Md_before_24 : decode gb_Md_before 24 = .ok (.ifCond .ge 7, 3) := by decide +kernel
theorem gd_Md_before_27 : decode gb_Md_before 27 = .ok (.iconst 1, 1) := by decide +kernel
theorem gd_Md_before_28 : decode gb_Md_before 28 = .ok (.goto 4, 3) := by decide +kernel
theorem gd_Md_before_31 : decode gb_Md_before 31 = .ok (.iconst 0, 1) := by decide +kernel
theorem gd_Md_before_32 : decode gb_Md_before 32 = .ok (.iadd, 1) := by decide +kernel
theorem gd_Md_before_33 : decode gb_Md_before 33 = .ok (.istore_n 2, 1) := by decide +kernel
theorem gd_Md_before_34 : decode gb_Md_before 34 = .ok (.iinc 3 1, 3) := by decide +kernel
theorem gd_Md_before_37 : decode gb_Md_before 37 = .ok (.goto (-33), 3) := by decide +kernel
theorem gd_Md_before_40 : decode gb_Md_before 40 = .ok (.iload_n 2, 1) := by decide +kernel
theorem gd_Md_before_41 : decode gb_Md_before 41 = .ok (.ireturn, 1) := by decide +kernel
theorem gd_Md_numberOf_0 : decode gb_Md_numberOf 0 = .ok (.iconst (-1), 1) := by decide +kernel
theorem gd_Md_numberOf_1 : decode gb_Md_numberOf 1 = .ok (.istore_n 2, 1) := by decide +kernel
theorem gd_Md_numberOf_2 : decode gb_Md_numberOf 2 = .ok (.iconst 0, 1) := by decide +kernel
theorem gd_Md_numberOf_3 : decode gb_Md_numberOf 3 = .ok (.istore_n 3, 1) := by decide +kernel
theorem gd_Md_numberOf_4 : decode gb_Md_numberOf 4 = .ok (.iload_n 3, 1) := by decide +kernel
theorem gd_Md_numberOf_5 : decode gb_Md_numberOf 5 = .ok (.aload_n 0, 1) := by decide +kernel
theorem gd_Md_numberOf_6 : decode gb_Md_numberOf 6 = .ok (.getfield 44, 3) := by decide +kernel
theorem gd_Md_numberOf_9 : decode gb_Md_numberOf 9 = .ok (.if_icmp .ge 34, 3) := by decide +kernel
theorem gd_Md_numberOf_12 : decode gb_Md_numberOf 12 = .ok (.aload_n 0, 1) := by decide +kernel
theorem gd_Md_numberOf_13 : decode gb_Md_numberOf 13 = .ok (.aload_n 0, 1) := by decide +kernel
theorem gd_Md_numberOf_14 : decode gb_Md_numberOf 14 = .ok (.getfield 29, 3) := by decide +kernel
theorem gd_Md_numberOf_17 : decode gb_Md_numberOf 17 = .ok (.iload_n 3, 1) := by decide +kernel
theorem gd_Md_numberOf_18 : decode gb_Md_numberOf 18 = .ok (.iaload, 1) := by decide +kernel
theorem gd_Md_numberOf_19 : decode gb_Md_numberOf 19 = .ok (.iload_n 1, 1) := by decide +kernel
theorem gd_Md_numberOf_20 : decode gb_Md_numberOf 20 = .ok (.invokevirtual 57, 3) := by decide +kernel
theorem gd_Md_numberOf_23 : decode gb_Md_numberOf 23 = .ok (.ifCond .ne 12, 3) := by decide +kernel
theorem gd_Md_numberOf_26 : decode gb_Md_numberOf 26 = .ok (.aload_n 0, 1) := by decide +kernel
theorem gd_Md_numberOf_27 : decode gb_Md_numberOf 27 = .ok (.getfield 29, 3) := by decide +kernel
theorem gd_Md_numberOf_30 : decode gb_Md_numberOf 30 = .ok (.iload_n 3, 1) := by decide +kernel
theorem gd_Md_numberOf_31 : decode gb_Md_numberOf 31 = .ok (.iaload, 1) := by decide +kernel
theorem gd_Md_numberOf_32 : decode gb_Md_numberOf 32 = .ok (.goto 4, 3) := by decide +kernel
theorem gd_Md_numberOf_35 : decode gb_Md_numberOf 35 = .ok (.iload_n 2, 1) := by decide +kernel
theorem gd_Md_numberOf_36 : decode gb_Md_numberOf 36 = .ok (.istore_n 2, 1) := by decide +kernel
theorem gd_Md_numberOf_37 : decode gb_Md_numberOf 37 = .ok (.iinc 3 1, 3) := by decide +kernel
theorem gd_Md_numberOf_40 : decode gb_Md_numberOf 40 = .ok (.goto (-36), 3) := by decide +kernel
theorem gd_Md_numberOf_43 : decode gb_Md_numberOf 43 = .ok (.iload_n 2, 1) := by decide +kernel
theorem gd_Md_numberOf_44 : decode gb_Md_numberOf 44 = .ok (.ireturn, 1) := by decide +kernel
theorem gd_Md_placeOf_0 : decode gb_Md_placeOf 0 = .ok (.iconst (-1), 1) := by decide +kernel
theorem gd_Md_placeOf_1 : decode gb_Md_placeOf 1 = .ok (.istore_n 2, 1) := by decide +kernel
theorem gd_Md_placeOf_2 : decode gb_Md_placeOf 2 = .ok (.iconst 0, 1) := by decide +kernel
theorem gd_Md_placeOf_3 : decode gb_Md_placeOf 3 = .ok (.istore_n 3, 1) := by decide +kernel
theorem gd_Md_placeOf_4 : decode gb_Md_placeOf 4 = .ok (.iload_n 3, 1) := by decide +kernel
theorem gd_Md_placeOf_5 : decode gb_Md_placeOf 5 = .ok (.aload_n 0, 1) := by decide +kernel
theorem gd_Md_placeOf_6 : decode gb_Md_placeOf 6 = .ok (.getfield 44, 3) := by decide +kernel
theorem gd_Md_placeOf_9 : decode gb_Md_placeOf 9 = .ok (.if_icmp .ge 25, 3) := by decide +kernel
theorem gd_Md_placeOf_12 : decode gb_Md_placeOf 12 = .ok (.aload_n 0, 1) := by decide +kernel
theorem gd_Md_placeOf_13 : decode gb_Md_placeOf 13 = .ok (.getfield 29, 3) := by decide +kernel
theorem gd_Md_placeOf_16 : decode gb_Md_placeOf 16 = .ok (.iload_n 3, 1) := by decide +kernel
theorem gd_Md_placeOf_17 : decode gb_Md_placeOf 17 = .ok (.iaload, 1) := by decide +kernel
theorem gd_Md_placeOf_18 : decode gb_Md_placeOf 18 = .ok (.iload_n 1, 1) := by decide +kernel
theorem gd_Md_placeOf_19 : decode gb_Md_placeOf 19 = .ok (.if_icmp .ne 7, 3) := by decide +kernel
theorem gd_Md_placeOf_22 : decode gb_Md_placeOf 22 = .ok (.iload_n 3, 1) := by decide +kernel
theorem gd_Md_placeOf_23 : decode gb_Md_placeOf 23 = .ok (.goto 4, 3) := by decide +kernel
theorem gd_Md_placeOf_26 : decode gb_Md_placeOf 26 = .ok (.iload_n 2, 1) := by decide +kernel
theorem gd_Md_placeOf_27 : decode gb_Md_placeOf 27 = .ok (.istore_n 2, 1) := by decide +kernel
theorem gd_Md_placeOf_28 : decode gb_Md_placeOf 28 = .ok (.iinc 3 1, 3) := by decide +kernel
theorem gd_Md_placeOf_31 : decode gb_Md_placeOf 31 = .ok (.goto (-27), 3) := by decide +kernel
theorem gd_Md_placeOf_34 : decode gb_Md_placeOf 34 = .ok (.iload_n 2, 1) := by decide +kernel
theorem gd_Md_placeOf_35 : decode gb_Md_placeOf 35 = .ok (.ireturn, 1) := by decide +kernel
theorem gd_Md_begin_0 : decode gb_Md_begin 0 = .ok (.iconst 0, 1) := by decide +kernel
theorem gd_Md_begin_1 : decode gb_Md_begin 1 = .ok (.istore_n 2, 1) := by decide +kernel
theorem gd_Md_begin_2 : decode gb_Md_begin 2 = .ok (.iconst 0, 1) := by decide +kernel
theorem gd_Md_begin_3 : decode gb_Md_begin 3 = .ok (.istore_n 3, 1) := by decide +kernel
theorem gd_Md_begin_4 : decode gb_Md_begin 4 = .ok (.iload_n 3, 1) := by decide +kernel
theorem gd_Md_begin_5 : decode gb_Md_begin 5 = .ok (.iload_n 1, 1) := by decide +kernel
theorem gd_Md_begin_6 : decode gb_Md_begin 6 = .ok (.if_icmp .ge 18, 3) := by decide +kernel
theorem gd_Md_begin_9 : decode gb_Md_begin 9 = .ok (.iload_n 2, 1) := by decide +kernel
theorem gd_Md_begin_10 : decode gb_Md_begin 10 = .ok (.aload_n 0, 1) := by decide +kernel
theorem gd_Md_begin_11 : decode gb_Md_begin 11 = .ok (.getfield 32, 3) := by decide +kernel
theorem gd_Md_begin_14 : decode gb_Md_begin 14 = .ok (.iload_n 3, 1) := by decide +kernel
theorem gd_Md_begin_15 : decode gb_Md_begin 15 = .ok (.iaload, 1) := by decide +kernel
theorem gd_Md_begin_16 : decode gb_Md_begin 16 = .ok (.iadd, 1) := by decide +kernel
theorem gd_Md_begin_17 : decode gb_Md_begin 17 = .ok (.istore_n 2, 1) := by decide +kernel
theorem gd_Md_begin_18 : decode gb_Md_begin 18 = .ok (.iinc 3 1, 3) := by decide +kernel
theorem gd_Md_begin_21 : decode gb_Md_begin 21 = .ok (.goto (-17), 3) := by decide +kernel
theorem gd_Md_begin_24 : decode gb_Md_begin 24 = .ok (.iload_n 2, 1) := by decide +kernel
theorem gd_Md_begin_25 : decode gb_Md_begin 25 = .ok (.ireturn, 1) := by decide +kernel
theorem gd_Md_insertLeaf_0 : decode gb_Md_insertLeaf 0 = .ok (.aload_n 0, 1) := by decide +kernel
theorem gd_Md_insertLeaf_1 : decode gb_Md_insertLeaf 1 = .ok (.getfield 61, 3) := by decide +kernel
theorem gd_Md_insertLeaf_4 : decode gb_Md_insertLeaf 4 = .ok (.istore_n 3, 1) := by decide +kernel
theorem gd_Md_insertLeaf_5 : decode gb_Md_insertLeaf 5 = .ok (.iload_n 3, 1) := by decide +kernel
theorem gd_Md_insertLeaf_6 : decode gb_Md_insertLeaf 6 = .ok (.iload_n 1, 1) := by decide +kernel
theorem gd_Md_insertLeaf_7 : decode gb_Md_insertLeaf 7 = .ok (.if_icmp .le 23, 3) := by decide +kernel
theorem gd_Md_insertLeaf_10 : decode gb_Md_insertLeaf 10 = .ok (.aload_n 0, 1) := by decide +kernel
theorem gd_Md_insertLeaf_11 : decode gb_Md_insertLeaf 11 = .ok (.getfield 32, 3) := by decide +kernel
theorem gd_Md_insertLeaf_14 : decode gb_Md_insertLeaf 14 = .ok (.iload_n 3, 1) := by decide +kernel
theorem gd_Md_insertLeaf_15 : decode gb_Md_insertLeaf 15 = .ok (.aload_n 0, 1) := by decide +kernel
theorem gd_Md_insertLeaf_16 : decode gb_Md_insertLeaf 16 = .ok (.getfield 32, 3) := by decide +kernel
theorem gd_Md_insertLeaf_19 : decode gb_Md_insertLeaf 19 = .ok (.iload_n 3, 1) := by decide +kernel
theorem gd_Md_insertLeaf_20 : decode gb_Md_insertLeaf 20 = .ok (.iconst 1, 1) := by decide +kernel
theorem gd_Md_insertLeaf_21 : decode gb_Md_insertLeaf 21 = .ok (.isub, 1) := by decide +kernel
theorem gd_Md_insertLeaf_22 : decode gb_Md_insertLeaf 22 = .ok (.iaload, 1) := by decide +kernel
theorem gd_Md_insertLeaf_23 : decode gb_Md_insertLeaf 23 = .ok (.iastore, 1) := by decide +kernel
theorem gd_Md_insertLeaf_24 : decode gb_Md_insertLeaf 24 = .ok (.iinc 3 (-1), 3) := by decide +kernel
theorem gd_Md_insertLeaf_27 : decode gb_Md_insertLeaf 27 = .ok (.goto (-22), 3) := by decide +kernel
theorem gd_Md_insertLeaf_30 : decode gb_Md_insertLeaf 30 = .ok (.aload_n 0, 1) := by decide +kernel
theorem gd_Md_insertLeaf_31 : decode gb_Md_insertLeaf 31 = .ok (.getfield 32, 3) := by decide +kernel
theorem gd_Md_insertLeaf_34 : decode gb_Md_insertLeaf 34 = .ok (.iload_n 1, 1) := by decide +kernel
theorem gd_Md_insertLeaf_35 : decode gb_Md_insertLeaf 35 = .ok (.iload_n 2, 1) := by decide +kernel
theorem gd_Md_insertLeaf_36 : decode gb_Md_insertLeaf 36 = .ok (.iastore, 1) := by decide +kernel
theorem gd_Md_insertLeaf_37 : decode gb_Md_insertLeaf 37 = .ok (.aload_n 0, 1) := by decide +kernel
theorem gd_Md_insertLeaf_38 : decode gb_Md_insertLeaf 38 = .ok (.dup, 1) := by decide +kernel
theorem gd_Md_insertLeaf_39 : decode gb_Md_insertLeaf 39 = .ok (.getfield 61, 3) := by decide +kernel
theorem gd_Md_insertLeaf_42 : decode gb_Md_insertLeaf 42 = .ok (.iconst 1, 1) := by decide +kernel
theorem gd_Md_insertLeaf_43 : decode gb_Md_insertLeaf 43 = .ok (.iadd, 1) := by decide +kernel
theorem gd_Md_insertLeaf_44 : decode gb_Md_insertLeaf 44 = .ok (.putfield 61, 3) := by decide +kernel
theorem gd_Md_insertLeaf_47 : decode gb_Md_insertLeaf 47 = .ok (.return_, 1) := by decide +kernel
theorem gd_Md_dropLeaf_0 : decode gb_Md_dropLeaf 0 = .ok (.aload_n 0, 1) := by decide +kernel
theorem gd_Md_dropLeaf_1 : decode gb_Md_dropLeaf 1 = .ok (.dup, 1) := by decide +kernel
theorem gd_Md_dropLeaf_2 : decode gb_Md_dropLeaf 2 = .ok (.getfield 61, 3) := by decide +kernel
theorem gd_Md_dropLeaf_5 : decode gb_Md_dropLeaf 5 = .ok (.iconst 1, 1) := by decide +kernel
theorem gd_Md_dropLeaf_6 : decode gb_Md_dropLeaf 6 = .ok (.isub, 1) := by decide +kernel
theorem gd_Md_dropLeaf_7 : decode gb_Md_dropLeaf 7 = .ok (.putfield 61, 3) := by decide +kernel
theorem gd_Md_dropLeaf_10 : decode gb_Md_dropLeaf 10 = .ok (.iload_n 1, 1) := by decide +kernel
theorem gd_Md_dropLeaf_11 : decode gb_Md_dropLeaf 11 = .ok (.istore_n 2, 1) := by decide +kernel
theorem gd_Md_dropLeaf_12 : decode gb_Md_dropLeaf 12 = .ok (.iload_n 2, 1) := by decide +kernel
theorem gd_Md_dropLeaf_13 : decode gb_Md_dropLeaf 13 = .ok (.aload_n 0, 1) := by decide +kernel
theorem gd_Md_dropLeaf_14 : decode gb_Md_dropLeaf 14 = .ok (.getfield 61, 3) := by decide +kernel
theorem gd_Md_dropLeaf_17 : decode gb_Md_dropLeaf 17 = .ok (.if_icmp .ge 23, 3) := by decide +kernel
theorem gd_Md_dropLeaf_20 : decode gb_Md_dropLeaf 20 = .ok (.aload_n 0, 1) := by decide +kernel
theorem gd_Md_dropLeaf_21 : decode gb_Md_dropLeaf 21 = .ok (.getfield 32, 3) := by decide +kernel
theorem gd_Md_dropLeaf_24 : decode gb_Md_dropLeaf 24 = .ok (.iload_n 2, 1) := by decide +kernel
theorem gd_Md_dropLeaf_25 : decode gb_Md_dropLeaf 25 = .ok (.aload_n 0, 1) := by decide +kernel
theorem gd_Md_dropLeaf_26 : decode gb_Md_dropLeaf 26 = .ok (.getfield 32, 3) := by decide +kernel
theorem gd_Md_dropLeaf_29 : decode gb_Md_dropLeaf 29 = .ok (.iload_n 2, 1) := by decide +kernel
theorem gd_Md_dropLeaf_30 : decode gb_Md_dropLeaf 30 = .ok (.iconst 1, 1) := by decide +kernel
theorem gd_Md_dropLeaf_31 : decode gb_Md_dropLeaf 31 = .ok (.iadd, 1) := by decide +kernel
theorem gd_Md_dropLeaf_32 : decode gb_Md_dropLeaf 32 = .ok (.iaload, 1) := by decide +kernel
theorem gd_Md_dropLeaf_33 : decode gb_Md_dropLeaf 33 = .ok (.iastore, 1) := by decide +kernel
theorem gd_Md_dropLeaf_34 : decode gb_Md_dropLeaf 34 = .ok (.iinc 2 1, 3) := by decide +kernel
theorem gd_Md_dropLeaf_37 : decode gb_Md_dropLeaf 37 = .ok (.goto (-25), 3) := by decide +kernel
theorem gd_Md_dropLeaf_40 : decode gb_Md_dropLeaf 40 = .ok (.return_, 1) := by decide +kernel
theorem gd_Md_add_0 : decode gb_Md_add 0 = .ok (.aload_n 0, 1) := by decide +kernel
theorem gd_Md_add_1 : decode gb_Md_add 1 = .ok (.getfield 54, 3) := by decide +kernel
theorem gd_Md_add_4 : decode gb_Md_add 4 = .ok (.istore_n 2, 1) := by decide +kernel
theorem gd_Md_add_5 : decode gb_Md_add 5 = .ok (.iload_n 1, 1) := by decide +kernel
theorem gd_Md_add_6 : decode gb_Md_add 6 = .ok (.iconst 0, 1) := by decide +kernel
theorem gd_Md_add_7 : decode gb_Md_add 7 = .ok (.iconst 3, 1) := by decide +kernel
theorem gd_Md_add_8 : decode gb_Md_add 8 = .ok (.invokestatic 48, 3) := by decide +kernel
theorem gd_Md_add_11 : decode gb_Md_add 11 = .ok (.ifCond .eq 7, 3) := by decide +kernel
theorem gd_Md_add_14 : decode gb_Md_add 14 = .ok (.iload_n 2, 1) := by decide +kernel
theorem gd_Md_add_15 : decode gb_Md_add 15 = .ok (.ifCond .ne 10, 3) := by decide +kernel
theorem gd_Md_add_18 : decode gb_Md_add 18 = .ok (.aload_n 0, 1) := by decide +kernel
theorem gd_Md_add_19 : decode gb_Md_add 19 = .ok (.iconst 0, 1) := by decide +kernel
theorem gd_Md_add_20 : decode gb_Md_add 20 = .ok (.putfield 54, 3) := by decide +kernel
theorem gd_Md_add_23 : decode gb_Md_add 23 = .ok (.iconst (-1), 1) := by decide +kernel
theorem gd_Md_add_24 : decode gb_Md_add 24 = .ok (.ireturn, 1) := by decide +kernel
theorem gd_Md_add_25 : decode gb_Md_add 25 = .ok (.aload_n 0, 1) := by decide +kernel
theorem gd_Md_add_26 : decode gb_Md_add 26 = .ok (.iload_n 1, 1) := by decide +kernel
theorem gd_Md_add_27 : decode gb_Md_add 27 = .ok (.invokevirtual 64, 3) := by decide +kernel
theorem gd_Md_add_30 : decode gb_Md_add 30 = .ok (.istore_n 3, 1) := by decide +kernel
theorem gd_Md_add_31 : decode gb_Md_add 31 = .ok (.iload_n 3, 1) := by decide +kernel
theorem gd_Md_add_32 : decode gb_Md_add 32 = .ok (.ifCond .ge 20, 3) := by decide +kernel
theorem gd_Md_add_35 : decode gb_Md_add 35 = .ok (.aload_n 0, 1) := by decide +kernel
theorem gd_Md_add_36 : decode gb_Md_add 36 = .ok (.getfield 44, 3) := by decide +kernel
theorem gd_Md_add_39 : decode gb_Md_add 39 = .ok (.bipush 100, 2) := by decide +kernel
theorem gd_Md_add_41 : decode gb_Md_add 41 = .ok (.if_icmp .ne 11, 3) := by decide +kernel
theorem gd_Md_add_44 : decode gb_Md_add 44 = .ok (.aload_n 0, 1) := by decide +kernel
theorem gd_Md_add_45 : decode gb_Md_add 45 = .ok (.iconst 0, 1) := by decide +kernel
theorem gd_Md_add_46 : decode gb_Md_add 46 = .ok (.putfield 54, 3) := by decide +kernel
theorem gd_Md_add_49 : decode gb_Md_add 49 = .ok (.bipush (-3), 2) := by decide +kernel
theorem gd_Md_add_51 : decode gb_Md_add 51 = .ok (.ireturn, 1) := by decide +kernel
theorem gd_Md_add_52 : decode gb_Md_add 52 = .ok (.iload_n 3, 1) := by decide +kernel
theorem gd_Md_add_53 : decode gb_Md_add 53 = .ok (.ifCond .ge 26, 3) := by decide +kernel
theorem gd_Md_add_56 : decode gb_Md_add 56 = .ok (.iconst 0, 1) := by decide +kernel
theorem gd_Md_add_57 : decode gb_Md_add 57 = .ok (.istore_n 3, 1) := by decide +kernel
theorem gd_Md_add_58 : decode gb_Md_add 58 = .ok (.aload_n 0, 1) := by decide +kernel
theorem gd_Md_add_59 : decode gb_Md_add 59 = .ok (.getfield 13, 3) := by decide +kernel
theorem gd_Md_add_62 : decode gb_Md_add 62 = .ok (.iload_n 3, 1) := by decide +kernel
theorem gd_Md_add_63 : decode gb_Md_add 63 = .ok (.baload, 1) := by decide +kernel
theorem gd_Md_add_64 : decode gb_Md_add 64 = .ok (.ifCond .eq 9, 3) := by decide +kernel
theorem gd_Md_add_67 : decode gb_Md_add 67 = .ok (.iinc 3 1, 3) := by decide +kernel
theorem gd_Md_add_70 : decode gb_Md_add 70 = .ok (.goto (-12), 3) := by decide +kernel
theorem gd_Md_add_73 : decode gb_Md_add 73 = .ok (.aload_n 0, 1) := by decide +kernel
theorem gd_Md_add_74 : decode gb_Md_add 74 = .ok (.iload_n 3, 1) := by decide +kernel
theorem gd_Md_add_75 : decode gb_Md_add 75 = .ok (.iload_n 1, 1) := by decide +kernel
theorem gd_Md_add_76 : decode gb_Md_add 76 = .ok (.invokevirtual 68, 3) := by decide +kernel
theorem gd_Md_add_79 : decode gb_Md_add 79 = .ok (.aload_n 0, 1) := by decide +kernel
theorem gd_Md_add_80 : decode gb_Md_add 80 = .ok (.getfield 20, 3) := by decide +kernel
theorem gd_Md_add_83 : decode gb_Md_add 83 = .ok (.iload_n 3, 1) := by decide +kernel
theorem gd_Md_add_84 : decode gb_Md_add 84 = .ok (.dup2, 1) := by decide +kernel
theorem gd_Md_add_85 : decode gb_Md_add 85 = .ok (.iaload, 1) := by decide +kernel
theorem gd_Md_add_86 : decode gb_Md_add 86 = .ok (.iconst 1, 1) := by decide +kernel
theorem gd_Md_add_87 : decode gb_Md_add 87 = .ok (.iadd, 1) := by decide +kernel
theorem gd_Md_add_88 : decode gb_Md_add 88 = .ok (.iastore, 1) := by decide +kernel
theorem gd_Md_add_89 : decode gb_Md_add 89 = .ok (.aload_n 0, 1) := by decide +kernel
theorem gd_Md_add_90 : decode gb_Md_add 90 = .ok (.iconst 0, 1) := by decide +kernel
theorem gd_Md_add_91 : decode gb_Md_add 91 = .ok (.putfield 54, 3) := by decide +kernel
theorem gd_Md_add_94 : decode gb_Md_add 94 = .ok (.iload_n 3, 1) := by decide +kernel
theorem gd_Md_add_95 : decode gb_Md_add 95 = .ok (.ireturn, 1) := by decide +kernel
theorem gd_Md_come_0 : decode gb_Md_come 0 = .ok (.aload_n 0, 1) := by decide +kernel
theorem gd_Md_come_1 : decode gb_Md_come 1 = .ok (.iload_n 2, 1) := by decide +kernel
theorem gd_Md_come_2 : decode gb_Md_come 2 = .ok (.invokevirtual 72, 3) := by decide +kernel
theorem gd_Md_come_5 : decode gb_Md_come 5 = .ok (.istore_n 3, 1) := by decide +kernel
theorem gd_Md_come_6 : decode gb_Md_come 6 = .ok (.aload_n 0, 1) := by decide +kernel
theorem gd_Md_come_7 : decode gb_Md_come 7 = .ok (.getfield 13, 3) := by decide +kernel
theorem gd_Md_come_10 : decode gb_Md_come 10 = .ok (.iload_n 1, 1) := by decide +kernel
theorem gd_Md_come_11 : decode gb_Md_come 11 = .ok (.iconst 1, 1) := by decide +kernel
theorem gd_Md_come_12 : decode gb_Md_come 12 = .ok (.bastore, 1) := by decide +kernel
theorem gd_Md_come_13 : decode gb_Md_come 13 = .ok (.aload_n 0, 1) := by decide +kernel
theorem gd_Md_come_14 : decode gb_Md_come 14 = .ok (.getfield 17, 3) := by decide +kernel
theorem gd_Md_come_17 : decode gb_Md_come 17 = .ok (.iload_n 1, 1) := by decide +kernel
theorem gd_Md_come_18 : decode gb_Md_come 18 = .ok (.iload_n 2, 1) := by decide +kernel
theorem gd_Md_come_19 : decode gb_Md_come 19 = .ok (.iastore, 1) := by decide +kernel
theorem gd_Md_come_20 : decode gb_Md_come 20 = .ok (.aload_n 0, 1) := by decide +kernel
theorem gd_Md_come_21 : decode gb_Md_come 21 = .ok (.getfield 20, 3) := by decide +kernel
theorem gd_Md_come_24 : decode gb_Md_come 24 = .ok (.iload_n 1, 1) := by decide +kernel
theorem gd_Md_come_25 : decode gb_Md_come 25 = .ok (.iconst 0, 1) := by decide +kernel
theorem gd_Md_come_26 : decode gb_Md_come 26 = .ok (.iastore, 1) := by decide +kernel
theorem gd_Md_come_27 : decode gb_Md_come 27 = .ok (.aload_n 0, 1) := by decide +kernel
theorem gd_Md_come_28 : decode gb_Md_come 28 = .ok (.getfield 23, 3) := by decide +kernel
theorem gd_Md_come_31 : decode gb_Md_come 31 = .ok (.iload_n 1, 1) := by decide +kernel
theorem gd_Md_come_32 : decode gb_Md_come 32 = .ok (.aload_n 0, 1) := by decide +kernel
theorem gd_Md_come_33 : decode gb_Md_come 33 = .ok (.getfield 54, 3) := by decide +kernel
theorem gd_Md_come_36 : decode gb_Md_come 36 = .ok (.iastore, 1) := by decide +kernel
theorem gd_Md_come_37 : decode gb_Md_come 37 = .ok (.iconst 0, 1) := by decide +kernel
theorem gd_Md_come_38 : decode gb_Md_come 38 = .ok (.istore 4, 2) := by decide +kernel
theorem gd_Md_come_40 : decode gb_Md_come 40 = .ok (.iload 4, 2) := by decide +kernel
theorem gd_Md_come_42 : decode gb_Md_come 42 = .ok (.aload_n 0, 1) := by decide +kernel
theorem gd_Md_come_43 : decode gb_Md_come 43 = .ok (.getfield 54, 3) := by decide +kernel
theorem gd_Md_come_46 : decode gb_Md_come 46 = .ok (.if_icmp .ge 28, 3) := by decide +kernel
theorem gd_Md_come_49 : decode gb_Md_come 49 = .ok (.aload_n 0, 1) := by decide +kernel
theorem gd_Md_come_50 : decode gb_Md_come 50 = .ok (.getfield 26, 3) := by decide +kernel
theorem gd_Md_come_53 : decode gb_Md_come 53 = .ok (.bipush 16, 2) := by decide +kernel
theorem gd_Md_come_55 : decode gb_Md_come 55 = .ok (.iload_n 1, 1) := by decide +kernel
theorem gd_Md_come_56 : decode gb_Md_come 56 = .ok (.imul, 1) := by decide +kernel
theorem gd_Md_come_57 : decode gb_Md_come 57 = .ok (.iload 4, 2) := by decide +kernel
theorem gd_Md_come_59 : decode gb_Md_come 59 = .ok (.iadd, 1) := by decide +kernel
theorem gd_Md_come_60 : decode gb_Md_come 60 = .ok (.aload_n 0, 1) := by decide +kernel
theorem gd_Md_come_61 : decode gb_Md_come 61 = .ok (.getfield 7, 3) := by decide +kernel
theorem gd_Md_come_64 : decode gb_Md_come 64 = .ok (.iload 4, 2) := by decide +kernel
theorem gd_Md_come_66 : decode gb_Md_come 66 = .ok (.iaload, 1) := by decide +kernel
theorem gd_Md_come_67 : decode gb_Md_come 67 = .ok (.iastore, 1) := by decide +kernel
theorem gd_Md_come_68 : decode gb_Md_come 68 = .ok (.iinc 4 1, 3) := by decide +kernel
theorem gd_Md_come_71 : decode gb_Md_come 71 = .ok (.goto (-31), 3) := by decide +kernel
theorem gd_Md_come_74 : decode gb_Md_come 74 = .ok (.aload_n 0, 1) := by decide +kernel
theorem gd_Md_come_75 : decode gb_Md_come 75 = .ok (.getfield 44, 3) := by decide +kernel
theorem gd_Md_come_78 : decode gb_Md_come 78 = .ok (.istore 4, 2) := by decide +kernel
theorem gd_Md_come_80 : decode gb_Md_come 80 = .ok (.iload 4, 2) := by decide +kernel
theorem gd_Md_come_82 : decode gb_Md_come 82 = .ok (.iload_n 3, 1) := by decide +kernel
theorem gd_Md_come_83 : decode gb_Md_come 83 = .ok (.if_icmp .le 25, 3) := by decide +kernel
theorem gd_Md_come_86 : decode gb_Md_come 86 = .ok (.aload_n 0, 1) := by decide +kernel
theorem gd_Md_come_87 : decode gb_Md_come 87 = .ok (.getfield 29, 3) := by decide +kernel
