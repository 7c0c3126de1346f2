theorem gd_Lv_insert_32 : decode gb_Lv_insert 32 = .ok (.getfield 18, 3) := by decide +kernel
theorem gd_Lv_insert_35 : decode gb_Lv_insert 35 = .ok (.istore 4, 2) := by decide +kernel
theorem gd_Lv_insert_37 : decode gb_Lv_insert 37 = .ok (.iload 4, 2) := by decide +kernel
theorem gd_Lv_insert_39 : decode gb_Lv_insert 39 = .ok (.iload_n 1, 1) := by decide +kernel
theorem gd_Lv_insert_40 : decode gb_Lv_insert 40 = .ok (.if_icmp .le 25, 3) := by decide +kernel
theorem gd_Lv_insert_43 : decode gb_Lv_insert 43 = .ok (.aload_n 0, 1) := by decide +kernel
theorem gd_Lv_insert_44 : decode gb_Lv_insert 44 = .ok (.getfield 9, 3) := by decide +kernel
theorem gd_Lv_insert_47 : decode gb_Lv_insert 47 = .ok (.iload 4, 2) := by decide +kernel
theorem gd_Lv_insert_49 : decode gb_Lv_insert 49 = .ok (.aload_n 0, 1) := by decide +kernel
theorem gd_Lv_insert_50 : decode gb_Lv_insert 50 = .ok (.getfield 9, 3) := by decide +kernel
theorem gd_Lv_insert_53 : decode gb_Lv_insert 53 = .ok (.iload 4, 2) := by decide +kernel
theorem gd_Lv_insert_55 : decode gb_Lv_insert 55 = .ok (.iconst 1, 1) := by decide +kernel
theorem gd_Lv_insert_56 : decode gb_Lv_insert 56 = .ok (.isub, 1) := by decide +kernel
theorem gd_Lv_insert_57 : decode gb_Lv_insert 57 = .ok (.iaload, 1) := by decide +kernel
theorem gd_Lv_insert_58 : decode gb_Lv_insert 58 = .ok (.iastore, 1) := by decide +kernel
theorem gd_Lv_insert_59 : decode gb_Lv_insert 59 = .ok (.iinc 4 (-1), 3) := by decide +kernel
theorem gd_Lv_insert_62 : decode gb_Lv_insert 62 = .ok (.goto (-25), 3) := by decide +kernel
theorem gd_Lv_insert_65 : decode gb_Lv_insert 65 = .ok (.aload_n 0, 1) := by decide +kernel
theorem gd_Lv_insert_66 : decode gb_Lv_insert 66 = .ok (.getfield 9, 3) := by decide +kernel
theorem gd_Lv_insert_69 : decode gb_Lv_insert 69 = .ok (.iload_n 1, 1) := by decide +kernel
theorem gd_Lv_insert_70 : decode gb_Lv_insert 70 = .ok (.iload_n 2, 1) := by decide +kernel
theorem gd_Lv_insert_71 : decode gb_Lv_insert 71 = .ok (.iastore, 1) := by decide +kernel
theorem gd_Lv_insert_72 : decode gb_Lv_insert 72 = .ok (.aload_n 0, 1) := by decide +kernel
theorem gd_Lv_insert_73 : decode gb_Lv_insert 73 = .ok (.dup, 1) := by decide +kernel
theorem gd_Lv_insert_74 : decode gb_Lv_insert 74 = .ok (.getfield 18, 3) := by decide +kernel
theorem gd_Lv_insert_77 : decode gb_Lv_insert 77 = .ok (.iconst 1, 1) := by decide +kernel
theorem gd_Lv_insert_78 : decode gb_Lv_insert 78 = .ok (.iadd, 1) := by decide +kernel
theorem gd_Lv_insert_79 : decode gb_Lv_insert 79 = .ok (.putfield 18, 3) := by decide +kernel
theorem gd_Lv_insert_82 : decode gb_Lv_insert 82 = .ok (.aload_n 0, 1) := by decide +kernel
theorem gd_Lv_insert_83 : decode gb_Lv_insert 83 = .ok (.getfield 26, 3) := by decide +kernel
theorem gd_Lv_insert_86 : decode gb_Lv_insert 86 = .ok (.ifCond .ne 8, 3) := by decide +kernel
theorem gd_Lv_insert_89 : decode gb_Lv_insert 89 = .ok (.aload_n 0, 1) := by decide +kernel
theorem gd_Lv_insert_90 : decode gb_Lv_insert 90 = .ok (.iconst 1, 1) := by decide +kernel
theorem gd_Lv_insert_91 : decode gb_Lv_insert 91 = .ok (.putfield 26, 3) := by decide +kernel
theorem gd_Lv_insert_94 : decode gb_Lv_insert 94 = .ok (.aload_n 0, 1) := by decide +kernel
theorem gd_Lv_insert_95 : decode gb_Lv_insert 95 = .ok (.iload_n 3, 1) := by decide +kernel
theorem gd_Lv_insert_96 : decode gb_Lv_insert 96 = .ok (.iconst 1, 1) := by decide +kernel
theorem gd_Lv_insert_97 : decode gb_Lv_insert 97 = .ok (.invokevirtual 35, 3) := by decide +kernel
theorem gd_Lv_insert_100 : decode gb_Lv_insert 100 = .ok (.aload_n 0, 1) := by decide +kernel
theorem gd_Lv_insert_101 : decode gb_Lv_insert 101 = .ok (.iload_n 3, 1) := by decide +kernel
theorem gd_Lv_insert_102 : decode gb_Lv_insert 102 = .ok (.invokevirtual 29, 3) := by decide +kernel
theorem gd_Lv_insert_105 : decode gb_Lv_insert 105 = .ok (.bipush 8, 2) := by decide +kernel
theorem gd_Lv_insert_107 : decode gb_Lv_insert 107 = .ok (.if_icmp .le 8, 3) := by decide +kernel
theorem gd_Lv_insert_110 : decode gb_Lv_insert 110 = .ok (.aload_n 0, 1) := by decide +kernel
theorem gd_Lv_insert_111 : decode gb_Lv_insert 111 = .ok (.iload_n 3, 1) := by decide +kernel
theorem gd_Lv_insert_112 : decode gb_Lv_insert 112 = .ok (.invokevirtual 39, 3) := by decide +kernel
theorem gd_Lv_insert_115 : decode gb_Lv_insert 115 = .ok (.return_, 1) := by decide +kernel
theorem gd_Lv_remove_0 : decode gb_Lv_remove 0 = .ok (.iload_n 1, 1) := by decide +kernel
theorem gd_Lv_remove_1 : decode gb_Lv_remove 1 = .ok (.ifCond .lt 23, 3) := by decide +kernel
theorem gd_Lv_remove_4 : decode gb_Lv_remove 4 = .ok (.iload_n 1, 1) := by decide +kernel
theorem gd_Lv_remove_5 : decode gb_Lv_remove 5 = .ok (.aload_n 0, 1) := by decide +kernel
theorem gd_Lv_remove_6 : decode gb_Lv_remove 6 = .ok (.getfield 18, 3) := by decide +kernel
theorem gd_Lv_remove_9 : decode gb_Lv_remove 9 = .ok (.if_icmp .ge 15, 3) := by decide +kernel
theorem gd_Lv_remove_12 : decode gb_Lv_remove 12 = .ok (.aload_n 0, 1) := by decide +kernel
theorem gd_Lv_remove_13 : decode gb_Lv_remove 13 = .ok (.getfield 18, 3) := by decide +kernel
theorem gd_Lv_remove_16 : decode gb_Lv_remove 16 = .ok (.aload_n 0, 1) := by decide +kernel
theorem gd_Lv_remove_17 : decode gb_Lv_remove 17 = .ok (.getfield 9, 3) := by decide +kernel
theorem gd_Lv_remove_20 : decode gb_Lv_remove 20 = .ok (.arraylength, 1) := by decide +kernel
theorem gd_Lv_remove_21 : decode gb_Lv_remove 21 = .ok (.if_icmp .le 4, 3) := by decide +kernel
theorem gd_Lv_remove_24 : decode gb_Lv_remove 24 = .ok (.return_, 1) := by decide +kernel
theorem gd_Lv_remove_25 : decode gb_Lv_remove 25 = .ok (.aload_n 0, 1) := by decide +kernel
theorem gd_Lv_remove_26 : decode gb_Lv_remove 26 = .ok (.iload_n 1, 1) := by decide +kernel
theorem gd_Lv_remove_27 : decode gb_Lv_remove 27 = .ok (.invokevirtual 32, 3) := by decide +kernel
theorem gd_Lv_remove_30 : decode gb_Lv_remove 30 = .ok (.istore_n 2, 1) := by decide +kernel
theorem gd_Lv_remove_31 : decode gb_Lv_remove 31 = .ok (.aload_n 0, 1) := by decide +kernel
theorem gd_Lv_remove_32 : decode gb_Lv_remove 32 = .ok (.dup, 1) := by decide +kernel
theorem gd_Lv_remove_33 : decode gb_Lv_remove 33 = .ok (.getfield 18, 3) := by decide +kernel
theorem gd_Lv_remove_36 : decode gb_Lv_remove 36 = .ok (.iconst 1, 1) := by decide +kernel
theorem gd_Lv_remove_37 : decode gb_Lv_remove 37 = .ok (.isub, 1) := by decide +kernel
theorem gd_Lv_remove_38 : decode gb_Lv_remove 38 = .ok (.putfield 18, 3) := by decide +kernel
theorem gd_Lv_remove_41 : decode gb_Lv_remove 41 = .ok (.iload_n 1, 1) := by decide +kernel
theorem gd_Lv_remove_42 : decode gb_Lv_remove 42 = .ok (.istore_n 3, 1) := by decide +kernel
theorem gd_Lv_remove_43 : decode gb_Lv_remove 43 = .ok (.iload_n 3, 1) := by decide +kernel
theorem gd_Lv_remove_44 : decode gb_Lv_remove 44 = .ok (.aload_n 0, 1) := by decide +kernel
theorem gd_Lv_remove_45 : decode gb_Lv_remove 45 = .ok (.getfield 18, 3) := by decide +kernel
theorem gd_Lv_remove_48 : decode gb_Lv_remove 48 = .ok (.if_icmp .ge 23, 3) := by decide +kernel
theorem gd_Lv_remove_51 : decode gb_Lv_remove 51 = .ok (.aload_n 0, 1) := by decide +kernel
theorem gd_Lv_remove_52 : decode gb_Lv_remove 52 = .ok (.getfield 9, 3) := by decide +kernel
theorem gd_Lv_remove_55 : decode gb_Lv_remove 55 = .ok (.iload_n 3, 1) := by decide +kernel
theorem gd_Lv_remove_56 : decode gb_Lv_remove 56 = .ok (.aload_n 0, 1) := by decide +kernel
theorem gd_Lv_remove_57 : decode gb_Lv_remove 57 = .ok (.getfield 9, 3) := by decide +kernel
theorem gd_Lv_remove_60 : decode gb_Lv_remove 60 = .ok (.iload_n 3, 1) := by decide +kernel
theorem gd_Lv_remove_61 : decode gb_Lv_remove 61 = .ok (.iconst 1, 1) := by decide +kernel
theorem gd_Lv_remove_62 : decode gb_Lv_remove 62 = .ok (.iadd, 1) := by decide +kernel
theorem gd_Lv_remove_63 : decode gb_Lv_remove 63 = .ok (.iaload, 1) := by decide +kernel
theorem gd_Lv_remove_64 : decode gb_Lv_remove 64 = .ok (.iastore, 1) := by decide +kernel
theorem gd_Lv_remove_65 : decode gb_Lv_remove 65 = .ok (.iinc 3 1, 3) := by decide +kernel
theorem gd_Lv_remove_68 : decode gb_Lv_remove 68 = .ok (.goto (-25), 3) := by decide +kernel
theorem gd_Lv_remove_71 : decode gb_Lv_remove 71 = .ok (.aload_n 0, 1) := by decide +kernel
theorem gd_Lv_remove_72 : decode gb_Lv_remove 72 = .ok (.iload_n 2, 1) := by decide +kernel
theorem gd_Lv_remove_73 : decode gb_Lv_remove 73 = .ok (.iconst (-1), 1) := by decide +kernel
theorem gd_Lv_remove_74 : decode gb_Lv_remove 74 = .ok (.invokevirtual 35, 3) := by decide +kernel
theorem gd_Lv_remove_77 : decode gb_Lv_remove 77 = .ok (.aload_n 0, 1) := by decide +kernel
theorem gd_Lv_remove_78 : decode gb_Lv_remove 78 = .ok (.iload_n 2, 1) := by decide +kernel
theorem gd_Lv_remove_79 : decode gb_Lv_remove 79 = .ok (.invokevirtual 29, 3) := by decide +kernel
theorem gd_Lv_remove_82 : decode gb_Lv_remove 82 = .ok (.iconst 3, 1) := by decide +kernel
theorem gd_Lv_remove_83 : decode gb_Lv_remove 83 = .ok (.if_icmp .ge 8, 3) := by decide +kernel
theorem gd_Lv_remove_86 : decode gb_Lv_remove 86 = .ok (.aload_n 0, 1) := by decide +kernel
theorem gd_Lv_remove_87 : decode gb_Lv_remove 87 = .ok (.iload_n 2, 1) := by decide +kernel
theorem gd_Lv_remove_88 : decode gb_Lv_remove 88 = .ok (.invokevirtual 43, 3) := by decide +kernel
theorem gd_Lv_remove_91 : decode gb_Lv_remove 91 = .ok (.return_, 1) := by decide +kernel
theorem gd_Lv_leafOf_0 : decode gb_Lv_leafOf 0 = .ok (.iconst 0, 1) := by decide +kernel
theorem gd_Lv_leafOf_1 : decode gb_Lv_leafOf 1 = .ok (.istore_n 2, 1) := by decide +kernel
theorem gd_Lv_leafOf_2 : decode gb_Lv_leafOf 2 = .ok (.iconst 0, 1) := by decide +kernel
theorem gd_Lv_leafOf_3 : decode gb_Lv_leafOf 3 = .ok (.istore_n 3, 1) := by decide +kernel
theorem gd_Lv_leafOf_4 : decode gb_Lv_leafOf 4 = .ok (.iload_n 3, 1) := by decide +kernel
theorem gd_Lv_leafOf_5 : decode gb_Lv_leafOf 5 = .ok (.aload_n 0, 1) := by decide +kernel
theorem gd_Lv_leafOf_6 : decode gb_Lv_leafOf 6 = .ok (.getfield 26, 3) := by decide +kernel
theorem gd_Lv_leafOf_9 : decode gb_Lv_leafOf 9 = .ok (.if_icmp .ge 24, 3) := by decide +kernel
theorem gd_Lv_leafOf_12 : decode gb_Lv_leafOf 12 = .ok (.iload_n 2, 1) := by decide +kernel
theorem gd_Lv_leafOf_13 : decode gb_Lv_leafOf 13 = .ok (.aload_n 0, 1) := by decide +kernel
theorem gd_Lv_leafOf_14 : decode gb_Lv_leafOf 14 = .ok (.iload_n 3, 1) := by decide +kernel
theorem gd_Lv_leafOf_15 : decode gb_Lv_leafOf 15 = .ok (.invokevirtual 29, 3) := by decide +kernel
theorem gd_Lv_leafOf_18 : decode gb_Lv_leafOf 18 = .ok (.iadd, 1) := by decide +kernel
theorem gd_Lv_leafOf_19 : decode gb_Lv_leafOf 19 = .ok (.istore_n 2, 1) := by decide +kernel
theorem gd_Lv_leafOf_20 : decode gb_Lv_leafOf 20 = .ok (.iload_n 2, 1) := by decide +kernel
theorem gd_Lv_leafOf_21 : decode gb_Lv_leafOf 21 = .ok (.iload_n 1, 1) := by decide +kernel
theorem gd_Lv_leafOf_22 : decode gb_Lv_leafOf 22 = .ok (.if_icmp .le 5, 3) := by decide +kernel
theorem gd_Lv_leafOf_25 : decode gb_Lv_leafOf 25 = .ok (.iload_n 3, 1) := by decide +kernel
theorem gd_Lv_leafOf_26 : decode gb_Lv_leafOf 26 = .ok (.ireturn, 1) := by decide +kernel
theorem gd_Lv_leafOf_27 : decode gb_Lv_leafOf 27 = .ok (.iinc 3 1, 3) := by decide +kernel
theorem gd_Lv_leafOf_30 : decode gb_Lv_leafOf 30 = .ok (.goto (-26), 3) := by decide +kernel
theorem gd_Lv_leafOf_33 : decode gb_Lv_leafOf 33 = .ok (.aload_n 0, 1) := by decide +kernel
theorem gd_Lv_leafOf_34 : decode gb_Lv_leafOf 34 = .ok (.getfield 26, 3) := by decide +kernel
theorem gd_Lv_leafOf_37 : decode gb_Lv_leafOf 37 = .ok (.iconst 1, 1) := by decide +kernel
theorem gd_Lv_leafOf_38 : decode gb_Lv_leafOf 38 = .ok (.isub, 1) := by decide +kernel
theorem gd_Lv_leafOf_39 : decode gb_Lv_leafOf 39 = .ok (.iconst 0, 1) := by decide +kernel
theorem gd_Lv_leafOf_40 : decode gb_Lv_leafOf 40 = .ok (.invokestatic 46, 3) := by decide +kernel
theorem gd_Lv_leafOf_43 : decode gb_Lv_leafOf 43 = .ok (.ireturn, 1) := by decide +kernel
theorem gd_Lv_resize_0 : decode gb_Lv_resize 0 = .ok (.iload_n 1, 1) := by decide +kernel
theorem gd_Lv_resize_1 : decode gb_Lv_resize 1 = .ok (.ifCond .lt 30, 3) := by decide +kernel
theorem gd_Lv_resize_4 : decode gb_Lv_resize 4 = .ok (.iload_n 1, 1) := by decide +kernel
theorem gd_Lv_resize_5 : decode gb_Lv_resize 5 = .ok (.aload_n 0, 1) := by decide +kernel
theorem gd_Lv_resize_6 : decode gb_Lv_resize 6 = .ok (.getfield 26, 3) := by decide +kernel
theorem gd_Lv_resize_9 : decode gb_Lv_resize 9 = .ok (.if_icmp .ge 22, 3) := by decide +kernel
theorem gd_Lv_resize_12 : decode gb_Lv_resize 12 = .ok (.iload_n 1, 1) := by decide +kernel
theorem gd_Lv_resize_13 : decode gb_Lv_resize 13 = .ok (.aload_n 0, 1) := by decide +kernel
theorem gd_Lv_resize_14 : decode gb_Lv_resize 14 = .ok (.getfield 15, 3) := by decide +kernel
theorem gd_Lv_resize_17 : decode gb_Lv_resize 17 = .ok (.arraylength, 1) := by decide +kernel
theorem gd_Lv_resize_18 : decode gb_Lv_resize 18 = .ok (.if_icmp .ge 13, 3) := by decide +kernel
theorem gd_Lv_resize_21 : decode gb_Lv_resize 21 = .ok (.aload_n 0, 1) := by decide +kernel
theorem gd_Lv_resize_22 : decode gb_Lv_resize 22 = .ok (.getfield 15, 3) := by decide +kernel
theorem gd_Lv_resize_25 : decode gb_Lv_resize 25 = .ok (.iload_n 1, 1) := by decide +kernel
theorem gd_Lv_resize_26 : decode gb_Lv_resize 26 = .ok (.dup2, 1) := by decide +kernel
theorem gd_Lv_resize_27 : decode gb_Lv_resize 27 = .ok (.iaload, 1) := by decide +kernel
theorem gd_Lv_resize_28 : decode gb_Lv_resize 28 = .ok (.iload_n 2, 1) := by decide +kernel
theorem gd_Lv_resize_29 : decode gb_Lv_resize 29 = .ok (.iadd, 1) := by decide +kernel
theorem gd_Lv_resize_30 : decode gb_Lv_resize 30 = .ok (.iastore, 1) := by decide +kernel
theorem gd_Lv_resize_31 : decode gb_Lv_resize 31 = .ok (.return_, 1) := by decide +kernel
theorem gd_Lv_part_0 : decode gb_Lv_part 0 = .ok (.iload_n 1, 1) := by decide +kernel
theorem gd_Lv_part_1 : decode gb_Lv_part 1 = .ok (.ifCond .lt 23, 3) := by decide +kernel
theorem gd_Lv_part_4 : decode gb_Lv_part 4 = .ok (.iload_n 1, 1) := by decide +kernel
theorem gd_Lv_part_5 : decode gb_Lv_part 5 = .ok (.aload_n 0, 1) := by decide +kernel
theorem gd_Lv_part_6 : decode gb_Lv_part 6 = .ok (.getfield 26, 3) := by decide +kernel
theorem gd_Lv_part_9 : decode gb_Lv_part 9 = .ok (.if_icmp .ge 15, 3) := by decide +kernel
theorem gd_Lv_part_12 : decode gb_Lv_part 12 = .ok (.aload_n 0, 1) := by decide +kernel
theorem gd_Lv_part_13 : decode gb_Lv_part 13 = .ok (.getfield 26, 3) := by decide +kernel
theorem gd_Lv_part_16 : decode gb_Lv_part 16 = .ok (.aload_n 0, 1) := by decide +kernel
theorem gd_Lv_part_17 : decode gb_Lv_part 17 = .ok (.getfield 15, 3) := by decide +kernel
theorem gd_Lv_part_20 : decode gb_Lv_part 20 = .ok (.arraylength, 1) := by decide +kernel
theorem gd_Lv_part_21 : decode gb_Lv_part 21 = .ok (.if_icmp .lt 4, 3) := by decide +kernel
theorem gd_Lv_part_24 : decode gb_Lv_part 24 = .ok (.return_, 1) := by decide +kernel
theorem gd_Lv_part_25 : decode gb_Lv_part 25 = .ok (.aload_n 0, 1) := by decide +kernel
theorem gd_Lv_part_26 : decode gb_Lv_part 26 = .ok (.getfield 26, 3) := by decide +kernel
theorem gd_Lv_part_29 : decode gb_Lv_part 29 = .ok (.istore_n 2, 1) := by decide +kernel
theorem gd_Lv_part_30 : decode gb_Lv_part 30 = .ok (.iload_n 2, 1) := by decide +kernel
theorem gd_Lv_part_31 : decode gb_Lv_part 31 = .ok (.iload_n 1, 1) := by decide +kernel
theorem gd_Lv_part_32 : decode gb_Lv_part 32 = .ok (.iconst 1, 1) := by decide +kernel
theorem gd_Lv_part_33 : decode gb_Lv_part 33 = .ok (.iadd, 1) := by decide +kernel
theorem gd_Lv_part_34 : decode gb_Lv_part 34 = .ok (.if_icmp .le 23, 3) := by decide +kernel
theorem gd_Lv_part_37 : decode gb_Lv_part 37 = .ok (.aload_n 0, 1) := by decide +kernel
theorem gd_Lv_part_38 : decode gb_Lv_part 38 = .ok (.getfield 15, 3) := by decide +kernel
theorem gd_Lv_part_41 : decode gb_Lv_part 41 = .ok (.iload_n 2, 1) := by decide +kernel
theorem gd_Lv_part_42 : decode gb_Lv_part 42 = .ok (.aload_n 0, 1) := by decide +kernel
theorem gd_Lv_part_43 : decode gb_Lv_part 43 = .ok (.getfield 15, 3) := by decide +kernel
theorem gd_Lv_part_46 : decode gb_Lv_part 46 = .ok (.iload_n 2, 1) := by decide +kernel
theorem gd_Lv_part_47 : decode gb_Lv_part 47 = .ok (.iconst 1, 1) := by decide +kernel
theorem gd_Lv_part_48 : decode gb_Lv_part 48 = .ok (.isub, 1) := by decide +kernel
theorem gd_Lv_part_49 : decode gb_Lv_part 49 = .ok (.iaload, 1) := by decide +kernel
theorem gd_Lv_part_50 : decode gb_Lv_part 50 = .ok (.iastore, 1) := by decide +kernel
theorem gd_Lv_part_51 : decode gb_Lv_part 51 = .ok (.iinc 2 (-1), 3) := by decide +kernel
theorem gd_Lv_part_54 : decode gb_Lv_part 54 = .ok (.goto (-24), 3) := by decide +kernel
theorem gd_Lv_part_57 : decode gb_Lv_part 57 = .ok (.aload_n 0, 1) := by decide +kernel
theorem gd_Lv_part_58 : decode gb_Lv_part 58 = .ok (.dup, 1) := by decide +kernel
theorem gd_Lv_part_59 : decode gb_Lv_part 59 = .ok (.getfield 26, 3) := by decide +kernel
theorem gd_Lv_part_62 : decode gb_Lv_part 62 = .ok (.iconst 1, 1) := by decide +kernel
theorem gd_Lv_part_63 : decode gb_Lv_part 63 = .ok (.iadd, 1) := by decide +kernel
theorem gd_Lv_part_64 : decode gb_Lv_part 64 = .ok (.putfield 26, 3) := by decide +kernel
theorem gd_Lv_part_67 : decode gb_Lv_part 67 = .ok (.aload_n 0, 1) := by decide +kernel
theorem gd_Lv_part_68 : decode gb_Lv_part 68 = .ok (.getfield 15, 3) := by decide +kernel
theorem gd_Lv_part_71 : decode gb_Lv_part 71 = .ok (.iload_n 1, 1) := by decide +kernel
theorem gd_Lv_part_72 : decode gb_Lv_part 72 = .ok (.iconst 1, 1) := by decide +kernel
theorem gd_Lv_part_73 : decode gb_Lv_part 73 = .ok (.iadd, 1) := by decide +kernel
theorem gd_Lv_part_74 : decode gb_Lv_part 74 = .ok (.aload_n 0, 1) := by decide +kernel
theorem gd_Lv_part_75 : decode gb_Lv_part 75 = .ok (.getfield 15, 3) := by decide +kernel
theorem gd_Lv_part_78 : decode gb_Lv_part 78 = .ok (.iload_n 1, 1) := by decide +kernel
theorem gd_Lv_part_79 : decode gb_Lv_part 79 = .ok (.iaload, 1) := by decide +kernel
theorem gd_Lv_part_80 : decode gb_Lv_part 80 = .ok (.iconst 4, 1) := by decide +kernel
theorem gd_Lv_part_81 : decode gb_Lv_part 81 = .ok (.isub, 1) := by decide +kernel
theorem gd_Lv_part_82 : decode gb_Lv_part 82 = .ok (.iastore, 1) := by decide +kernel
theorem gd_Lv_part_83 : decode gb_Lv_part 83 = .ok (.aload_n 0, 1) := by decide +kernel
theorem gd_Lv_part_84 : decode gb_Lv_part 84 = .ok (.getfield 15, 3) := by decide +kernel
theorem gd_Lv_part_87 : decode gb_Lv_part 87 = .ok (.iload_n 1, 1) := by decide +kernel
theorem gd_Lv_part_88 : decode gb_Lv_part 88 = .ok (.iconst 4, 1) := by decide +kernel
theorem gd_Lv_part_89 : decode gb_Lv_part 89 = .ok (.iastore, 1) := by decide +kernel
theorem gd_Lv_part_90 : decode gb_Lv_part 90 = .ok (.return_, 1) := by decide +kernel
theorem gd_Lv_mend_0 : decode gb_Lv_mend 0 = .ok (.aload_n 0, 1) := by decide +kernel
theorem gd_Lv_mend_1 : decode gb_Lv_mend 1 = .ok (.getfield 26, 3) := by decide +kernel
theorem gd_Lv_mend_4 : decode gb_Lv_mend 4 = .ok (.iconst 2, 1) := by decide +kernel
theorem gd_Lv_mend_5 : decode gb_Lv_mend 5 = .ok (.if_icmp .ge 8, 3) := by decide +kernel
theorem gd_Lv_mend_8 : decode gb_Lv_mend 8 = .ok (.aload_n 0, 1) := by decide +kernel
theorem gd_Lv_mend_9 : decode gb_Lv_mend 9 = .ok (.invokevirtual 52, 3) := by decide +kernel
theorem gd_Lv_mend_12 : decode gb_Lv_mend 12 = .ok (.return_, 1) := by decide +kernel
theorem gd_Lv_mend_13 : decode gb_Lv_mend 13 = .ok (.iload_n 1, 1) := by decide +kernel
theorem gd_Lv_mend_14 : decode gb_Lv_mend 14 = .ok (.iconst 1, 1) := by decide +kernel
theorem gd_Lv_mend_15 : decode gb_Lv_mend 15 = .ok (.iadd, 1) := by decide +kernel
theorem gd_Lv_mend_16 : decode gb_Lv_mend 16 = .ok (.aload_n 0, 1) := by decide +kernel
theorem gd_Lv_mend_17 : decode gb_Lv_mend 17 = .ok (.getfield 26, 3) := by decide +kernel
theorem gd_Lv_mend_20 : decode gb_Lv_mend 20 = .ok (.if_icmp .ge 9, 3) := by decide +kernel
theorem gd_Lv_mend_23 : decode gb_Lv_mend 23 = .ok (.iload_n 1, 1) := by decide +kernel
theorem gd_Lv_mend_24 : decode gb_Lv_mend 24 = .ok (.iconst 1, 1) := by decide +kernel
theorem gd_Lv_mend_25 : decode gb_Lv_mend 25 = .ok (.iadd, 1) := by decide +kernel
theorem gd_Lv_mend_26 : decode gb_Lv_mend 26 = .ok (.goto 6, 3) := by decide +kernel
theorem gd_Lv_mend_29 : decode gb_Lv_mend 29 = .ok (.iload_n 1, 1) := by decide +kernel
theorem gd_Lv_mend_30 : decode gb_Lv_mend 30 = .ok (.iconst 1, 1) := by decide +kernel
theorem gd_Lv_mend_31 : decode gb_Lv_mend 31 = .ok (.isub, 1) := by decide +kernel
theorem gd_Lv_mend_32 : decode gb_Lv_mend 32 = .ok (.istore_n 2, 1) := by decide +kernel
theorem gd_Lv_mend_33 : decode gb_Lv_mend 33 = .ok (.aload_n 0, 1) := by decide +kernel
theorem gd_Lv_mend_34 : decode gb_Lv_mend 34 = .ok (.iload_n 1, 1) := by decide +kernel
theorem gd_Lv_mend_35 : decode gb_Lv_mend 35 = .ok (.invokevirtual 29, 3) := by decide +kernel
theorem gd_Lv_mend_38 : decode gb_Lv_mend 38 = .ok (.aload_n 0, 1) := by decide +kernel
theorem gd_Lv_mend_39 : decode gb_Lv_mend 39 = .ok (.iload_n 2, 1) := by decide +kernel
theorem gd_Lv_mend_40 : decode gb_Lv_mend 40 = .ok (.invokevirtual 29, 3) := by decide +kernel
theorem gd_Lv_mend_43 : decode gb_Lv_mend 43 = .ok (.iadd, 1) := by decide +kernel
theorem gd_Lv_mend_44 : decode gb_Lv_mend 44 = .ok (.bipush 8, 2) := by decide +kernel
theorem gd_Lv_mend_46 : decode gb_Lv_mend 46 = .ok (.if_icmp .gt 15, 3) := by decide +kernel
theorem gd_Lv_mend_49 : decode gb_Lv_mend 49 = .ok (.aload_n 0, 1) := by decide +kernel
theorem gd_Lv_mend_50 : decode gb_Lv_mend 50 = .ok (.iload_n 1, 1) := by decide +kernel
theorem gd_Lv_mend_51 : decode gb_Lv_mend 51 = .ok (.iload_n 2, 1) := by decide +kernel
theorem gd_Lv_mend_52 : decode gb_Lv_mend 52 = .ok (.invokestatic 55, 3) := by decide +kernel
theorem gd_Lv_mend_55 : decode gb_Lv_mend 55 = .ok (.invokevirtual 58, 3) := by decide +kernel
theorem gd_Lv_mend_58 : decode gb_Lv_mend 58 = .ok (.goto 15, 3) := by decide +kernel
theorem gd_Lv_mend_61 : decode gb_Lv_mend 61 = .ok (.aload_n 0, 1) := by decide +kernel
theorem gd_Lv_mend_62 : decode gb_Lv_mend 62 = .ok (.iload_n 1, 1) := by decide +kernel
theorem gd_Lv_mend_63 : decode gb_Lv_mend 63 = .ok (.iconst 1, 1) := by decide +kernel
theorem gd_Lv_mend_64 : decode gb_Lv_mend 64 = .ok (.invokevirtual 35, 3) := by decide +kernel
theorem gd_Lv_mend_67 : decode gb_Lv_mend 67 = .ok (.aload_n 0, 1) := by decide +kernel
theorem gd_Lv_mend_68 : decode gb_Lv_mend 68 = .ok (.iload_n 2, 1) := by decide +kernel
theorem gd_Lv_mend_69 : decode gb_Lv_mend 69 = .ok (.iconst (-1), 1) := by decide +kernel
theorem gd_Lv_mend_70 : decode gb_Lv_mend 70 = .ok (.invokevirtual 35, 3) := by decide +kernel
theorem gd_Lv_mend_73 : decode gb_Lv_mend 73 = .ok (.return_, 1) := by decide +kernel
theorem gd_Lv_dropEmpty_0 : decode gb_Lv_dropEmpty 0 = .ok (.aload_n 0, 1) := by decide +kernel
theorem gd_Lv_dropEmpty_1 : decode gb_Lv_dropEmpty 1 = .ok (.getfield 18, 3) := by decide +kernel
theorem gd_Lv_dropEmpty_4 : decode gb_Lv_dropEmpty 4 = .ok (.ifCond .ne 8, 3) := by decide +kernel
theorem gd_Lv_dropEmpty_7 : decode gb_Lv_dropEmpty 7 = .ok (.aload_n 0, 1) := by decide +kernel
theorem gd_Lv_dropEmpty_8 : decode gb_Lv_dropEmpty 8 = .ok (.iconst 0, 1) := by decide +kernel
theorem gd_Lv_dropEmpty_9 : decode gb_Lv_dropEmpty 9 = .ok (.putfield 26, 3) := by decide +kernel
theorem gd_Lv_dropEmpty_12 : decode gb_Lv_dropEmpty 12 = .ok (.return_, 1) := by decide +kernel
theorem gd_Lv_joinNext_0 : decode gb_Lv_joinNext 0 = .ok (.iload_n 1, 1) := by decide +kernel
theorem gd_Lv_joinNext_1 : decode gb_Lv_joinNext 1 = .ok (.ifCond .lt 25, 3) := by decide +kernel
theorem gd_Lv_joinNext_4 : decode gb_Lv_joinNext 4 = .ok (.iload_n 1, 1) := by decide +kernel
theorem gd_Lv_joinNext_5 : decode gb_Lv_joinNext 5 = .ok (.iconst 1, 1) := by decide +kernel
theorem gd_Lv_joinNext_6 : decode gb_Lv_joinNext 6 = .ok (.iadd, 1) := by decide +kernel
theorem gd_Lv_joinNext_7 : decode gb_Lv_joinNext 7 = .ok (.aload_n 0, 1) := by decide +kernel
theorem gd_Lv_joinNext_8 : decode gb_Lv_joinNext 8 = .ok (.getfield 26, 3) := by decide +kernel
theorem gd_Lv_joinNext_11 : decode gb_Lv_joinNext 11 = .ok (.if_icmp .ge 15, 3) := by decide +kernel
theorem gd_Lv_joinNext_14 : decode gb_Lv_joinNext 14 = .ok (.aload_n 0, 1) := by decide +kernel
theorem gd_Lv_joinNext_15 : decode gb_Lv_joinNext 15 = .ok (.getfield 26, 3) := by decide +kernel
theorem gd_Lv_joinNext_18 : decode gb_Lv_joinNext 18 = .ok (.aload_n 0, 1) := by decide +kernel
theorem gd_Lv_joinNext_19 : decode gb_Lv_joinNext 19 = .ok (.getfield 15, 3) := by decide +kernel
theorem gd_Lv_joinNext_22 : decode gb_Lv_joinNext 22 = .ok (.arraylength, 1) := by decide +kernel
theorem gd_Lv_joinNext_23 : decode gb_Lv_joinNext 23 = .ok (.if_icmp .le 4, 3) := by decide +kernel
theorem gd_Lv_joinNext_26 : decode gb_Lv_joinNext 26 = .ok (.return_, 1) := by decide +kernel
theorem gd_Lv_joinNext_27 : decode gb_Lv_joinNext 27 = .ok (.aload_n 0, 1) := by decide +kernel
theorem gd_Lv_joinNext_28 : decode gb_Lv_joinNext 28 = .ok (.iload_n 1, 1) := by decide +kernel
theorem gd_Lv_joinNext_29 : decode gb_Lv_joinNext 29 = .ok (.aload_n 0, 1) := by decide +kernel
theorem gd_Lv_joinNext_30 : decode gb_Lv_joinNext 30 = .ok (.iload_n 1, 1) := by decide +kernel
theorem gd_Lv_joinNext_31 : decode gb_Lv_joinNext 31 = .ok (.iconst 1, 1) := by decide +kernel
theorem gd_Lv_joinNext_32 : decode gb_Lv_joinNext 32 = .ok (.iadd, 1) := by decide +kernel
theorem gd_Lv_joinNext_33 : decode gb_Lv_joinNext 33 = .ok (.invokevirtual 29, 3) := by decide +kernel
theorem gd_Lv_joinNext_36 : decode gb_Lv_joinNext 36 = .ok (.invokevirtual 35, 3) := by decide +kernel
theorem gd_Lv_joinNext_39 : decode gb_Lv_joinNext 39 = .ok (.aload_n 0, 1) := by decide +kernel
theorem gd_Lv_joinNext_40 : decode gb_Lv_joinNext 40 = .ok (.dup, 1) := by decide +kernel
theorem gd_Lv_joinNext_41 : decode gb_Lv_joinNext 41 = .ok (.getfield 26, 3) := by decide +kernel
theorem gd_Lv_joinNext_44 : decode gb_Lv_joinNext 44 = .ok (.iconst 1, 1) := by decide +kernel
theorem gd_Lv_joinNext_45 : decode gb_Lv_joinNext 45 = .ok (.isub, 1) := by decide +kernel
theorem gd_Lv_joinNext_46 : decode gb_Lv_joinNext 46 = .ok (.putfield 26, 3) := by decide +kernel
theorem gd_Lv_joinNext_49 : decode gb_Lv_joinNext 49 = .ok (.iload_n 1, 1) := by decide +kernel
theorem gd_Lv_joinNext_50 : decode gb_Lv_joinNext 50 = .ok (.iconst 1, 1) := by decide +kernel
theorem gd_Lv_joinNext_51 : decode gb_Lv_joinNext 51 = .ok (.iadd, 1) := by decide +kernel
theorem gd_Lv_joinNext_52 : decode gb_Lv_joinNext 52 = .ok (.istore_n 2, 1) := by decide +kernel
theorem gd_Lv_joinNext_53 : decode gb_Lv_joinNext 53 = .ok (.iload_n 2, 1) := by decide +kernel
theorem gd_Lv_joinNext_54 : decode gb_Lv_joinNext 54 = .ok (.aload_n 0, 1) := by decide +kernel
theorem gd_Lv_joinNext_55 : decode gb_Lv_joinNext 55 = .ok (.getfield 26, 3) := by decide +kernel
theorem gd_Lv_joinNext_58 : decode gb_Lv_joinNext 58 = .ok (.if_icmp .ge 23, 3) := by decide +kernel
theorem gd_Lv_joinNext_61 : decode gb_Lv_joinNext 61 = .ok (.aload_n 0, 1) := by decide +kernel
theorem gd_Lv_joinNext_62 : decode gb_Lv_joinNext 62 = .ok (.getfield 15, 3) := by decide +kernel
theorem gd_Lv_joinNext_65 : decode gb_Lv_joinNext 65 = .ok (.iload_n 2, 1) := by decide +kernel
theorem gd_Lv_joinNext_66 : decode gb_Lv_joinNext 66 = .ok (.aload_n 0, 1) := by decide +kernel
theorem gd_Lv_joinNext_67 : decode gb_Lv_joinNext 67 = .ok (.getfield 15, 3) := by decide +kernel
theorem gd_Lv_joinNext_70 : decode gb_Lv_joinNext 70 = .ok (.iload_n 2, 1) := by decide +kernel
theorem gd_Lv_joinNext_71 : decode gb_Lv_joinNext 71 = .ok (.iconst 1, 1) := by decide +kernel
theorem gd_Lv_joinNext_72 : decode gb_Lv_joinNext 72 = .ok (.iadd, 1) := by decide +kernel
theorem gd_Lv_joinNext_73 : decode gb_Lv_joinNext 73 = .ok (.iaload, 1) := by decide +kernel
theorem gd_Lv_joinNext_74 : decode gb_Lv_joinNext 74 = .ok (.iastore, 1) := by decide +kernel
theorem gd_Lv_joinNext_75 : decode gb_Lv_joinNext 75 = .ok (.iinc 2 1, 3) := by decide +kernel
theorem gd_Lv_joinNext_78 : decode gb_Lv_joinNext 78 = .ok (.goto (-25), 3) := by decide +kernel
theorem gd_Lv_joinNext_81 : decode gb_Lv_joinNext 81 = .ok (.return_, 1) := by decide +kernel
theorem gd_Tm_init_0 : decode gb_Tm_init 0 = .ok (.aload_n 0, 1) := by decide +kernel
theorem gd_Tm_init_1 : decode gb_Tm_init 1 = .ok (.invokespecial 1, 3) := by decide +kernel
theorem gd_Tm_init_4 : decode gb_Tm_init 4 = .ok (.aload_n 0, 1) := by decide +kernel
theorem gd_Tm_init_5 : decode gb_Tm_init 5 = .ok (.new 7, 3) := by decide +kernel
theorem gd_Tm_init_8 : decode gb_Tm_init 8 = .ok (.dup, 1) := by decide +kernel
theorem gd_Tm_init_9 : decode gb_Tm_init 9 = .ok (.invokespecial 9, 3) := by decide +kernel
theorem gd_Tm_init_12 : decode gb_Tm_init 12 = .ok (.putfield 10, 3) := by decide +kernel
theorem gd_Tm_init_15 : decode gb_Tm_init 15 = .ok (.return_, 1) := by decide +kernel
theorem gd_Tm_comeAs_0 : decode gb_Tm_comeAs 0 = .ok (.aload_n 0, 1) := by decide +kernel
theorem gd_Tm_comeAs_1 : decode gb_Tm_comeAs 1 = .ok (.getfield 10, 3) := by decide +kernel
theorem gd_Tm_comeAs_4 : decode gb_Tm_comeAs 4 = .ok (.aload_n 2, 1) := by decide +kernel
theorem gd_Tm_comeAs_5 : decode gb_Tm_comeAs 5 = .ok (.invokevirtual 16, 3) := by decide +kernel
theorem gd_Tm_comeAs_8 : decode gb_Tm_comeAs 8 = .ok (.aload_n 0, 1) := by decide +kernel
theorem gd_Tm_comeAs_9 : decode gb_Tm_comeAs 9 = .ok (.iload_n 1, 1) := by decide +kernel
theorem gd_Tm_comeAs_10 : decode gb_Tm_comeAs 10 = .ok (.putfield 20, 3) := by decide +kernel
theorem gd_Tm_comeAs_13 : decode gb_Tm_comeAs 13 = .ok (.aload_n 0, 1) := by decide +kernel
theorem gd_Tm_comeAs_14 : decode gb_Tm_comeAs 14 = .ok (.iconst 0, 1) := by decide +kernel
theorem gd_Tm_comeAs_15 : decode gb_Tm_comeAs 15 = .ok (.putfield 24, 3) := by decide +kernel
theorem gd_Tm_comeAs_18 : decode gb_Tm_comeAs 18 = .ok (.aload_n 0, 1) := by decide +kernel
theorem gd_Tm_comeAs_19 : decode gb_Tm_comeAs 19 = .ok (.iconst 0, 1) := by decide +kernel
theorem gd_Tm_comeAs_20 : decode gb_Tm_comeAs 20 = .ok (.putfield 27, 3) := by decide +kernel
theorem gd_Tm_comeAs_23 : decode gb_Tm_comeAs 23 = .ok (.aload_n 0, 1) := by decide +kernel
theorem gd_Tm_comeAs_24 : decode gb_Tm_comeAs 24 = .ok (.iconst 1, 1) := by decide +kernel
theorem gd_Tm_comeAs_25 : decode gb_Tm_comeAs 25 = .ok (.putfield 30, 3) := by decide +kernel
theorem gd_Tm_comeAs_28 : decode gb_Tm_comeAs 28 = .ok (.return_, 1) := by decide +kernel
theorem gd_Tm_compareWith_0 : decode gb_Tm_compareWith 0 = .ok (.aload_n 0, 1) := by decide +kernel
theorem gd_Tm_compareWith_1 : decode gb_Tm_compareWith 1 = .ok (.getfield 20, 3) := by decide +kernel
theorem gd_Tm_compareWith_4 : decode gb_Tm_compareWith 4 = .ok (.iload_n 1, 1) := by decide +kernel
theorem gd_Tm_compareWith_5 : decode gb_Tm_compareWith 5 = .ok (.if_icmp .eq 14, 3) := by decide +kernel
theorem gd_Tm_compareWith_8 : decode gb_Tm_compareWith 8 = .ok (.aload_n 0, 1) := by decide +kernel
theorem gd_Tm_compareWith_9 : decode gb_Tm_compareWith 9 = .ok (.getfield 20, 3) := by decide +kernel
theorem gd_Tm_compareWith_12 : decode gb_Tm_compareWith 12 = .ok (.iload_n 1, 1) := by decide +kernel
theorem gd_Tm_compareWith_13 : decode gb_Tm_compareWith 13 = .ok (.invokestatic 34, 3) := by decide +kernel
theorem gd_Tm_compareWith_16 : decode gb_Tm_compareWith 16 = .ok (.goto 11, 3) := by decide +kernel
theorem gd_Tm_compareWith_19 : decode gb_Tm_compareWith 19 = .ok (.aload_n 0, 1) := by decide +kernel
theorem gd_Tm_compareWith_20 : decode gb_Tm_compareWith 20 = .ok (.getfield 10, 3) := by decide +kernel
theorem gd_Tm_compareWith_23 : decode gb_Tm_compareWith 23 = .ok (.aload_n 2, 1) := by decide +kernel
theorem gd_Tm_compareWith_24 : decode gb_Tm_compareWith 24 = .ok (.invokevirtual 40, 3) := by decide +kernel
theorem gd_Tm_compareWith_27 : decode gb_Tm_compareWith 27 = .ok (.ireturn, 1) := by decide +kernel
theorem gd_Tm_keepFor_0 : decode gb_Tm_keepFor 0 = .ok (.aload_n 0, 1) := by decide +kernel
theorem gd_Tm_keepFor_1 : decode gb_Tm_keepFor 1 = .ok (.dup, 1) := by decide +kernel
theorem gd_Tm_keepFor_2 : decode gb_Tm_keepFor 2 = .ok (.getfield 27, 3) := by decide +kernel
theorem gd_Tm_keepFor_5 : decode gb_Tm_keepFor 5 = .ok (.iconst 1, 1) := by decide +kernel
theorem gd_Tm_keepFor_6 : decode gb_Tm_keepFor 6 = .ok (.iload_n 1, 1) := by decide +kernel
theorem gd_Tm_keepFor_7 : decode gb_Tm_keepFor 7 = .ok (.ishl, 1) := by decide +kernel
theorem gd_Tm_keepFor_8 : decode gb_Tm_keepFor 8 = .ok (.ior, 1) := by decide +kernel
theorem gd_Tm_keepFor_9 : decode gb_Tm_keepFor 9 = .ok (.putfield 27, 3) := by decide +kernel
theorem gd_Tm_keepFor_12 : decode gb_Tm_keepFor 12 = .ok (.return_, 1) := by decide +kernel
theorem gd_Tm_giveUpFor_0 : decode gb_Tm_giveUpFor 0 = .ok (.aload_n 0, 1) := by decide +kernel
theorem gd_Tm_giveUpFor_1 : decode gb_Tm_giveUpFor 1 = .ok (.dup, 1) := by decide +kernel
theorem gd_Tm_giveUpFor_2 : decode gb_Tm_giveUpFor 2 = .ok (.getfield 27, 3) := by decide +kernel
theorem gd_Tm_giveUpFor_5 : decode gb_Tm_giveUpFor 5 = .ok (.iconst 1, 1) := by decide +kernel
theorem gd_Tm_giveUpFor_6 : decode gb_Tm_giveUpFor 6 = .ok (.iload_n 1, 1) := by decide +kernel
theorem gd_Tm_giveUpFor_7 : decode gb_Tm_giveUpFor 7 = .ok (.ishl, 1) := by decide +kernel
theorem gd_Tm_giveUpFor_8 : decode gb_Tm_giveUpFor 8 = .ok (.iconst (-1), 1) := by decide +kernel
theorem gd_Tm_giveUpFor_9 : decode gb_Tm_giveUpFor 9 = .ok (.ixor, 1) := by decide +kernel
theorem gd_Tm_giveUpFor_10 : decode gb_Tm_giveUpFor 10 = .ok (.iand, 1) := by decide +kernel
theorem gd_Tm_giveUpFor_11 : decode gb_Tm_giveUpFor 11 = .ok (.putfield 27, 3) := by decide +kernel
theorem gd_Tm_giveUpFor_14 : decode gb_Tm_giveUpFor 14 = .ok (.return_, 1) := by decide +kernel
theorem gd_Tm_isKeptFor_0 : decode gb_Tm_isKeptFor 0 = .ok (.aload_n 0, 1) := by decide +kernel
theorem gd_Tm_isKeptFor_1 : decode gb_Tm_isKeptFor 1 = .ok (.getfield 27, 3) := by decide +kernel
theorem gd_Tm_isKeptFor_4 : decode gb_Tm_isKeptFor 4 = .ok (.iconst 1, 1) := by decide +kernel
theorem gd_Tm_isKeptFor_5 : decode gb_Tm_isKeptFor 5 = .ok (.iload_n 1, 1) := by decide +kernel
theorem gd_Tm_isKeptFor_6 : decode gb_Tm_isKeptFor 6 = .ok (.ishl, 1) := by decide +kernel
theorem gd_Tm_isKeptFor_7 : decode gb_Tm_isKeptFor 7 = .ok (.iand, 1) := by decide +kernel
theorem gd_Tm_isKeptFor_8 : decode gb_Tm_isKeptFor 8 = .ok (.ifCond .eq 7, 3) := by decide +kernel
theorem gd_Tm_isKeptFor_11 : decode gb_Tm_isKeptFor 11 = .ok (.iconst 1, 1) := by decide +kernel
theorem gd_Tm_isKeptFor_12 : decode gb_Tm_isKeptFor 12 = .ok (.goto 4, 3) := by decide +kernel
theorem gd_Tm_isKeptFor_15 : decode gb_Tm_isKeptFor 15 = .ok (.iconst 0, 1) := by decide +kernel
theorem gd_Tm_isKeptFor_16 : decode gb_Tm_isKeptFor 16 = .ok (.ireturn, 1) := by decide +kernel
theorem gd_Tm_isNeeded_0 : decode gb_Tm_isNeeded 0 = .ok (.aload_n 0, 1) := by decide +kernel
theorem gd_Tm_isNeeded_1 : decode gb_Tm_isNeeded 1 = .ok (.getfield 24, 3) := by decide +kernel
theorem gd_Tm_isNeeded_4 : decode gb_Tm_isNeeded 4 = .ok (.ifCond .gt 10, 3) := by decide +kernel
theorem gd_Tm_isNeeded_7 : decode gb_Tm_isNeeded 7 = .ok (.aload_n 0, 1) := by decide +kernel
theorem gd_Tm_isNeeded_8 : decode gb_Tm_isNeeded 8 = .ok (.getfield 27, 3) := by decide +kernel
theorem gd_Tm_isNeeded_11 : decode gb_Tm_isNeeded 11 = .ok (.ifCond .eq 7, 3) := by decide +kernel
theorem gd_Tm_isNeeded_14 : decode gb_Tm_isNeeded 14 = .ok (.iconst 1, 1) := by decide +kernel
theorem gd_Tm_isNeeded_15 : decode gb_Tm_isNeeded 15 = .ok (.goto 4, 3) := by decide +kernel
theorem gd_Tm_isNeeded_18 : decode gb_Tm_isNeeded 18 = .ok (.iconst 0, 1) := by decide +kernel
theorem gd_Tm_isNeeded_19 : decode gb_Tm_isNeeded 19 = .ok (.ireturn, 1) := by decide +kernel
theorem gd_Tx_init_0 : decode gb_Tx_init 0 = .ok (.aload_n 0, 1) := by decide +kernel
theorem gd_Tx_init_1 : decode gb_Tx_init 1 = .ok (.invokespecial 1, 3) := by decide +kernel
theorem gd_Tx_init_4 : decode gb_Tx_init 4 = .ok (.return_, 1) := by decide +kernel
theorem gd_Tx_append_0 : decode gb_Tx_append 0 = .ok (.aload_n 0, 1) := by decide +kernel
theorem gd_Tx_append_1 : decode gb_Tx_append 1 = .ok (.getfield 7, 3) := by decide +kernel
theorem gd_Tx_append_4 : decode gb_Tx_append 4 = .ok (.bipush 8, 2) := by decide +kernel
theorem gd_Tx_append_6 : decode gb_Tx_append 6 = .ok (.if_icmp .ge 38, 3) := by decide +kernel
theorem gd_Tx_append_9 : decode gb_Tx_append 9 = .ok (.aload_n 0, 1) := by decide +kernel
theorem gd_Tx_append_10 : decode gb_Tx_append 10 = .ok (.dup, 1) := by decide +kernel
theorem gd_Tx_append_11 : decode gb_Tx_append 11 = .ok (.getfield 13, 3) := by decide +kernel
theorem gd_Tx_append_14 : decode gb_Tx_append 14 = .ok (.iload_n 1, 1) := by decide +kernel
theorem gd_Tx_append_15 : decode gb_Tx_append 15 = .ok (.i2l, 1) := by decide +kernel
theorem gd_Tx_append_16 : decode gb_Tx_append 16 = .ok (.bipush 8, 2) := by decide +kernel
theorem gd_Tx_append_18 : decode gb_Tx_append 18 = .ok (.bipush 7, 2) := by decide +kernel
theorem gd_Tx_append_20 : decode gb_Tx_append 20 = .ok (.aload_n 0, 1) := by decide +kernel
theorem gd_Tx_append_21 : decode gb_Tx_append 21 = .ok (.getfield 7, 3) := by decide +kernel
theorem gd_Tx_append_24 : decode gb_Tx_append 24 = .ok (.isub, 1) := by decide +kernel
theorem gd_Tx_append_25 : decode gb_Tx_append 25 = .ok (.imul, 1) := by decide +kernel
theorem gd_Tx_append_26 : decode gb_Tx_append 26 = .ok (.lshl, 1) := by decide +kernel
theorem gd_Tx_append_27 : decode gb_Tx_append 27 = .ok (.lor, 1) := by decide +kernel
theorem gd_Tx_append_28 : decode gb_Tx_append 28 = .ok (.putfield 13, 3) := by decide +kernel
theorem gd_Tx_append_31 : decode gb_Tx_append 31 = .ok (.aload_n 0, 1) := by decide +kernel
theorem gd_Tx_append_32 : decode gb_Tx_append 32 = .ok (.dup, 1) := by decide +kernel
theorem gd_Tx_append_33 : decode gb_Tx_append 33 = .ok (.getfield 7, 3) := by decide +kernel
theorem gd_Tx_append_36 : decode gb_Tx_append 36 = .ok (.iconst 1, 1) := by decide +kernel
theorem gd_Tx_append_37 : decode gb_Tx_append 37 = .ok (.iadd, 1) := by decide +kernel
theorem gd_Tx_append_38 : decode gb_Tx_append 38 = .ok (.putfield 7, 3) := by decide +kernel
theorem gd_Tx_append_41 : decode gb_Tx_append 41 = .ok (.goto 44, 3) := by decide +kernel
theorem gd_Tx_append_44 : decode gb_Tx_append 44 = .ok (.aload_n 0, 1) := by decide +kernel
theorem gd_Tx_append_45 : decode gb_Tx_append 45 = .ok (.getfield 7, 3) := by decide +kernel
theorem gd_Tx_append_48 : decode gb_Tx_append 48 = .ok (.bipush 16, 2) := by decide +kernel
theorem gd_Tx_append_50 : decode gb_Tx_append 50 = .ok (.if_icmp .ge 35, 3) := by decide +kernel
theorem gd_Tx_append_53 : decode gb_Tx_append 53 = .ok (.aload_n 0, 1) := by decide +kernel
theorem gd_Tx_append_54 : decode gb_Tx_append 54 = .ok (.dup, 1) := by decide +kernel
theorem gd_Tx_append_55 : decode gb_Tx_append 55 = .ok (.getfield 17, 3) := by decide +kernel
theorem gd_Tx_append_58 : decode gb_Tx_append 58 = .ok (.iload_n 1, 1) := by decide +kernel
theorem gd_Tx_append_59 : decode gb_Tx_append 59 = .ok (.i2l, 1) := by decide +kernel
theorem gd_Tx_append_60 : decode gb_Tx_append 60 = .ok (.bipush 8, 2) := by decide +kernel
theorem gd_Tx_append_62 : decode gb_Tx_append 62 = .ok (.bipush 15, 2) := by decide +kernel
theorem gd_Tx_append_64 : decode gb_Tx_append 64 = .ok (.aload_n 0, 1) := by decide +kernel
theorem gd_Tx_append_65 : decode gb_Tx_append 65 = .ok (.getfield 7, 3) := by decide +kernel
theorem gd_Tx_append_68 : decode gb_Tx_append 68 = .ok (.isub, 1) := by decide +kernel
theorem gd_Tx_append_69 : decode gb_Tx_append 69 = .ok (.imul, 1) := by decide +kernel
theorem gd_Tx_append_70 : decode gb_Tx_append 70 = .ok (.lshl, 1) := by decide +kernel
theorem gd_Tx_append_71 : decode gb_Tx_append 71 = .ok (.lor, 1) := by decide +kernel
theorem gd_Tx_append_72 : decode gb_Tx_append 72 = .ok (.putfield 17, 3) := by decide +kernel
theorem gd_Tx_append_75 : decode gb_Tx_append 75 = .ok (.aload_n 0, 1) := by decide +kernel
theorem gd_Tx_append_76 : decode gb_Tx_append 76 = .ok (.dup, 1) := by decide +kernel
theorem gd_Tx_append_77 : decode gb_Tx_append 77 = .ok (.getfield 7, 3) := by decide +kernel
theorem gd_Tx_append_80 : decode gb_Tx_append 80 = .ok (.iconst 1, 1) := by decide +kernel
theorem gd_Tx_append_81 : decode gb_Tx_append 81 = .ok (.iadd, 1) := by decide +kernel
theorem gd_Tx_append_82 : decode gb_Tx_append 82 = .ok (.putfield 7, 3) := by decide +kernel
theorem gd_Tx_append_85 : decode gb_Tx_append 85 = .ok (.return_, 1) := by decide +kernel
theorem gd_Tx_empty_0 : decode gb_Tx_empty 0 = .ok (.aload_n 0, 1) := by decide +kernel
theorem gd_Tx_empty_1 : decode gb_Tx_empty 1 = .ok (.lconst 0, 1) := by decide +kernel
theorem gd_Tx_empty_2 : decode gb_Tx_empty 2 = .ok (.putfield 13, 3) := by decide +kernel
theorem gd_Tx_empty_5 : decode gb_Tx_empty 5 = .ok (.aload_n 0, 1) := by decide +kernel
theorem gd_Tx_empty_6 : decode gb_Tx_empty 6 = .ok (.lconst 0, 1) := by decide +kernel
theorem gd_Tx_empty_7 : decode gb_Tx_empty 7 = .ok (.putfield 17, 3) := by decide +kernel
theorem gd_Tx_empty_10 : decode gb_Tx_empty 10 = .ok (.aload_n 0, 1) := by decide +kernel
theorem gd_Tx_empty_11 : decode gb_Tx_empty 11 = .ok (.iconst 0, 1) := by decide +kernel
theorem gd_Tx_empty_12 : decode gb_Tx_empty 12 = .ok (.putfield 7, 3) := by decide +kernel
theorem gd_Tx_empty_15 : decode gb_Tx_empty 15 = .ok (.return_, 1) := by decide +kernel
theorem gd_Tx_copyOf_0 : decode gb_Tx_copyOf 0 = .ok (.aload_n 0, 1) := by decide +kernel
theorem gd_Tx_copyOf_1 : decode gb_Tx_copyOf 1 = .ok (.aload_n 1, 1) := by decide +kernel
theorem gd_Tx_copyOf_2 : decode gb_Tx_copyOf 2 = .ok (.getfield 13, 3) := by decide +kernel
theorem gd_Tx_copyOf_5 : decode gb_Tx_copyOf 5 = .ok (.putfield 13, 3) := by decide +kernel
theorem gd_Tx_copyOf_8 : decode gb_Tx_copyOf 8 = .ok (.aload_n 0, 1) := by decide +kernel
theorem gd_Tx_copyOf_9 : decode gb_Tx_copyOf 9 = .ok (.aload_n 1, 1) := by decide +kernel
theorem gd_Tx_copyOf_10 : decode gb_Tx_copyOf 10 = .ok (.getfield 17, 3) := by decide +kernel
theorem gd_Tx_copyOf_13 : decode gb_Tx_copyOf 13 = .ok (.putfield 17, 3) := by decide +kernel
theorem gd_Tx_copyOf_16 : decode gb_Tx_copyOf 16 = .ok (.aload_n 0, 1) := by decide +kernel
theorem gd_Tx_copyOf_17 : decode gb_Tx_copyOf 17 = .ok (.aload_n 1, 1) := by decide +kernel
theorem gd_Tx_copyOf_18 : decode gb_Tx_copyOf 18 = .ok (.getfield 7, 3) := by decide +kernel
theorem gd_Tx_copyOf_21 : decode gb_Tx_copyOf 21 = .ok (.putfield 7, 3) := by decide +kernel
theorem gd_Tx_copyOf_24 : decode gb_Tx_copyOf 24 = .ok (.return_, 1) := by decide +kernel
theorem gd_Tx_byteAt_0 : decode gb_Tx_byteAt 0 = .ok (.iload_n 1, 1) := by decide +kernel
theorem gd_Tx_byteAt_1 : decode gb_Tx_byteAt 1 = .ok (.bipush 8, 2) := by decide +kernel
theorem gd_Tx_byteAt_3 : decode gb_Tx_byteAt 3 = .ok (.if_icmp .ge 17, 3) := by decide +kernel
theorem gd_Tx_byteAt_6 : decode gb_Tx_byteAt 6 = .ok (.aload_n 0, 1) := by decide +kernel
theorem gd_Tx_byteAt_7 : decode gb_Tx_byteAt 7 = .ok (.getfield 13, 3) := by decide +kernel
theorem gd_Tx_byteAt_10 : decode gb_Tx_byteAt 10 = .ok (.bipush 7, 2) := by decide +kernel
theorem gd_Tx_byteAt_12 : decode gb_Tx_byteAt 12 = .ok (.iload_n 1, 1) := by decide +kernel
theorem gd_Tx_byteAt_13 : decode gb_Tx_byteAt 13 = .ok (.isub, 1) := by decide +kernel
theorem gd_Tx_byteAt_14 : decode gb_Tx_byteAt 14 = .ok (.invokestatic 20, 3) := by decide +kernel
theorem gd_Tx_byteAt_17 : decode gb_Tx_byteAt 17 = .ok (.goto 14, 3) := by decide +kernel
theorem gd_Tx_byteAt_20 : decode gb_Tx_byteAt 20 = .ok (.aload_n 0, 1) := by decide +kernel
theorem gd_Tx_byteAt_21 : decode gb_Tx_byteAt 21 = .ok (.getfield 17, 3) := by decide +kernel
theorem gd_Tx_byteAt_24 : decode gb_Tx_byteAt 24 = .ok (.bipush 15, 2) := by decide +kernel
theorem gd_Tx_byteAt_26 : decode gb_Tx_byteAt 26 = .ok (.iload_n 1, 1) := by decide +kernel
theorem gd_Tx_byteAt_27 : decode gb_Tx_byteAt 27 = .ok (.isub, 1) := by decide +kernel
theorem gd_Tx_byteAt_28 : decode gb_Tx_byteAt 28 = .ok (.invokestatic 20, 3) := by decide +kernel
theorem gd_Tx_byteAt_31 : decode gb_Tx_byteAt 31 = .ok (.ireturn, 1) := by decide +kernel
theorem gd_Tx_compareWith_0 : decode gb_Tx_compareWith 0 = .ok (.aload_n 0, 1) := by decide +kernel
theorem gd_Tx_compareWith_1 : decode gb_Tx_compareWith 1 = .ok (.getfield 13, 3) := by decide +kernel
theorem gd_Tx_compareWith_4 : decode gb_Tx_compareWith 4 = .ok (.aload_n 1, 1) := by decide +kernel
theorem gd_Tx_compareWith_5 : decode gb_Tx_compareWith 5 = .ok (.getfield 13, 3) := by decide +kernel
theorem gd_Tx_compareWith_8 : decode gb_Tx_compareWith 8 = .ok (.lcmp, 1) := by decide +kernel
theorem gd_Tx_compareWith_9 : decode gb_Tx_compareWith 9 = .ok (.ifCond .eq 17, 3) := by decide +kernel
theorem gd_Tx_compareWith_12 : decode gb_Tx_compareWith 12 = .ok (.aload_n 0, 1) := by decide +kernel
theorem gd_Tx_compareWith_13 : decode gb_Tx_compareWith 13 = .ok (.getfield 13, 3) := by decide +kernel
theorem gd_Tx_compareWith_16 : decode gb_Tx_compareWith 16 = .ok (.aload_n 1, 1) := by decide +kernel
theorem gd_Tx_compareWith_17 : decode gb_Tx_compareWith 17 = .ok (.getfield 13, 3) := by decide +kernel
theorem gd_Tx_compareWith_20 : decode gb_Tx_compareWith 20 = .ok (.invokestatic 26, 3) := by decide +kernel
theorem gd_Tx_compareWith_23 : decode gb_Tx_compareWith 23 = .ok (.goto 14, 3) := by decide +kernel
theorem gd_Tx_compareWith_26 : decode gb_Tx_compareWith 26 = .ok (.aload_n 0, 1) := by decide +kernel
theorem gd_Tx_compareWith_27 : decode gb_Tx_compareWith 27 = .ok (.getfield 17, 3) := by decide +kernel
theorem gd_Tx_compareWith_30 : decode gb_Tx_compareWith 30 = .ok (.aload_n 1, 1) := by decide +kernel
theorem gd_Tx_compareWith_31 : decode gb_Tx_compareWith 31 = .ok (.getfield 17, 3) := by decide +kernel
theorem gd_Tx_compareWith_34 : decode gb_Tx_compareWith 34 = .ok (.invokestatic 26, 3) := by decide +kernel
theorem gd_Tx_compareWith_37 : decode gb_Tx_compareWith 37 = .ok (.ireturn, 1) := by decide +kernel
theorem gd_Tx_sharedWith_0 : decode gb_Tx_sharedWith 0 = .ok (.aload_n 0, 1) := by decide +kernel
theorem gd_Tx_sharedWith_1 : decode gb_Tx_sharedWith 1 = .ok (.getfield 13, 3) := by decide +kernel
theorem gd_Tx_sharedWith_4 : decode gb_Tx_sharedWith 4 = .ok (.aload_n 1, 1) := by decide +kernel
theorem gd_Tx_sharedWith_5 : decode gb_Tx_sharedWith 5 = .ok (.getfield 13, 3) := by decide +kernel
theorem gd_Tx_sharedWith_8 : decode gb_Tx_sharedWith 8 = .ok (.lcmp, 1) := by decide +kernel
theorem gd_Tx_sharedWith_9 : decode gb_Tx_sharedWith 9 = .ok (.ifCond .eq 21, 3) := by decide +kernel
theorem gd_Tx_sharedWith_12 : decode gb_Tx_sharedWith 12 = .ok (.aload_n 0, 1) := by decide +kernel
theorem gd_Tx_sharedWith_13 : decode gb_Tx_sharedWith 13 = .ok (.getfield 13, 3) := by decide +kernel
theorem gd_Tx_sharedWith_16 : decode gb_Tx_sharedWith 16 = .ok (.aload_n 1, 1) := by decide +kernel
theorem gd_Tx_sharedWith_17 : decode gb_Tx_sharedWith 17 = .ok (.getfield 13, 3) := by decide +kernel
theorem gd_Tx_sharedWith_20 : decode gb_Tx_sharedWith 20 = .ok (.lxor, 1) := by decide +kernel
theorem gd_Tx_sharedWith_21 : decode gb_Tx_sharedWith 21 = .ok (.invokestatic 32, 3) := by decide +kernel
theorem gd_Tx_sharedWith_24 : decode gb_Tx_sharedWith 24 = .ok (.bipush 8, 2) := by decide +kernel
theorem gd_Tx_sharedWith_26 : decode gb_Tx_sharedWith 26 = .ok (.idiv, 1) := by decide +kernel
theorem gd_Tx_sharedWith_27 : decode gb_Tx_sharedWith 27 = .ok (.goto 21, 3) := by decide +kernel
theorem gd_Tx_sharedWith_30 : decode gb_Tx_sharedWith 30 = .ok (.bipush 8, 2) := by decide +kernel
theorem gd_Tx_sharedWith_32 : decode gb_Tx_sharedWith 32 = .ok (.aload_n 0, 1) := by decide +kernel
theorem gd_Tx_sharedWith_33 : decode gb_Tx_sharedWith 33 = .ok (.getfield 17, 3) := by decide +kernel
theorem gd_Tx_sharedWith_36 : decode gb_Tx_sharedWith 36 = .ok (.aload_n 1, 1) := by decide +kernel
theorem gd_Tx_sharedWith_37 : decode gb_Tx_sharedWith 37 = .ok (.getfield 17, 3) := by decide +kernel
theorem gd_Tx_sharedWith_40 : decode gb_Tx_sharedWith 40 = .ok (.lxor, 1) := by decide +kernel
theorem gd_Tx_sharedWith_41 : decode gb_Tx_sharedWith 41 = .ok (.invokestatic 32, 3) := by decide +kernel
theorem gd_Tx_sharedWith_44 : decode gb_Tx_sharedWith 44 = .ok (.bipush 8, 2) := by decide +kernel
theorem gd_Tx_sharedWith_46 : decode gb_Tx_sharedWith 46 = .ok (.idiv, 1) := by decide +kernel
theorem gd_Tx_sharedWith_47 : decode gb_Tx_sharedWith 47 = .ok (.iadd, 1) := by decide +kernel
theorem gd_Tx_sharedWith_48 : decode gb_Tx_sharedWith 48 = .ok (.istore_n 2, 1) := by decide +kernel
theorem gd_Tx_sharedWith_49 : decode gb_Tx_sharedWith 49 = .ok (.iload_n 2, 1) := by decide +kernel
theorem gd_Tx_sharedWith_50 : decode gb_Tx_sharedWith 50 = .ok (.aload_n 0, 1) := by decide +kernel
theorem gd_Tx_sharedWith_51 : decode gb_Tx_sharedWith 51 = .ok (.getfield 7, 3) := by decide +kernel
theorem gd_Tx_sharedWith_54 : decode gb_Tx_sharedWith 54 = .ok (.aload_n 1, 1) := by decide +kernel
theorem gd_Tx_sharedWith_55 : decode gb_Tx_sharedWith 55 = .ok (.getfield 7, 3) := by decide +kernel
theorem gd_Tx_sharedWith_58 : decode gb_Tx_sharedWith 58 = .ok (.invokestatic 36, 3) := by decide +kernel
theorem gd_Tx_sharedWith_61 : decode gb_Tx_sharedWith 61 = .ok (.invokestatic 36, 3) := by decide +kernel
theorem gd_Tx_sharedWith_64 : decode gb_Tx_sharedWith 64 = .ok (.ireturn, 1) := by decide +kernel
theorem gd_Tx_startsWith_0 : decode gb_Tx_startsWith 0 = .ok (.aload_n 0, 1) := by decide +kernel
theorem gd_Tx_startsWith_1 : decode gb_Tx_startsWith 1 = .ok (.aload_n 1, 1) := by decide +kernel
theorem gd_Tx_startsWith_2 : decode gb_Tx_startsWith 2 = .ok (.invokevirtual 42, 3) := by decide +kernel
theorem gd_Tx_startsWith_5 : decode gb_Tx_startsWith 5 = .ok (.aload_n 1, 1) := by decide +kernel
theorem gd_Tx_startsWith_6 : decode gb_Tx_startsWith 6 = .ok (.getfield 7, 3) := by decide +kernel
theorem gd_Tx_startsWith_9 : decode gb_Tx_startsWith 9 = .ok (.if_icmp .ne 7, 3) := by decide +kernel
theorem gd_Tx_startsWith_12 : decode gb_Tx_startsWith 12 = .ok (.iconst 1, 1) := by decide +kernel
theorem gd_Tx_startsWith_13 : decode gb_Tx_startsWith 13 = .ok (.goto 4, 3) := by decide +kernel
theorem gd_Tx_startsWith_16 : decode gb_Tx_startsWith 16 = .ok (.iconst 0, 1) := by decide +kernel
theorem gd_Tx_startsWith_17 : decode gb_Tx_startsWith 17 = .ok (.ireturn, 1) := by decide +kernel
