theorem gd_Md_begins_136 : decode gb_Md_begins 136 = .ok (.ireturn, 1) := by decide +kernel
theorem gd_Md_from_0 : decode gb_Md_from 0 = .ok (.iload_n 1, 1) := by decide +kernel
theorem gd_Md_from_1 : decode gb_Md_from 1 = .ok (.iconst 0, 1) := by decide +kernel
theorem gd_Md_from_2 : decode gb_Md_from 2 = .ok (.iconst 3, 1) := by decide +kernel
theorem gd_Md_from_3 : decode gb_Md_from 3 = .ok (.invokestatic 48, 3) := by decide +kernel
theorem gd_Md_from_6 : decode gb_Md_from 6 = .ok (.ifCond .eq 11, 3) := by decide +kernel
theorem gd_Md_from_9 : decode gb_Md_from 9 = .ok (.aload_n 0, 1) := by decide +kernel
theorem gd_Md_from_10 : decode gb_Md_from 10 = .ok (.iload_n 1, 1) := by decide +kernel
theorem gd_Md_from_11 : decode gb_Md_from 11 = .ok (.invokevirtual 72, 3) := by decide +kernel
theorem gd_Md_from_14 : decode gb_Md_from 14 = .ok (.goto 4, 3) := by decide +kernel
theorem gd_Md_from_17 : decode gb_Md_from 17 = .ok (.iconst (-1), 1) := by decide +kernel
theorem gd_Md_from_18 : decode gb_Md_from 18 = .ok (.ireturn, 1) := by decide +kernel
theorem gd_Md_version_0 : decode gb_Md_version 0 = .ok (.aload_n 0, 1) := by decide +kernel
theorem gd_Md_version_1 : decode gb_Md_version 1 = .ok (.getfield 88, 3) := by decide +kernel
theorem gd_Md_version_4 : decode gb_Md_version 4 = .ok (.bipush 6, 2) := by decide +kernel
theorem gd_Md_version_6 : decode gb_Md_version 6 = .ok (.if_icmp .ne 6, 3) := by decide +kernel
theorem gd_Md_version_9 : decode gb_Md_version 9 = .ok (.bipush (-3), 2) := by decide +kernel
theorem gd_Md_version_11 : decode gb_Md_version 11 = .ok (.ireturn, 1) := by decide +kernel
theorem gd_Md_version_12 : decode gb_Md_version 12 = .ok (.aload_n 0, 1) := by decide +kernel
theorem gd_Md_version_13 : decode gb_Md_version 13 = .ok (.getfield 35, 3) := by decide +kernel
theorem gd_Md_version_16 : decode gb_Md_version 16 = .ok (.aload_n 0, 1) := by decide +kernel
theorem gd_Md_version_17 : decode gb_Md_version 17 = .ok (.getfield 88, 3) := by decide +kernel
theorem gd_Md_version_20 : decode gb_Md_version 20 = .ok (.aload_n 0, 1) := by decide +kernel
theorem gd_Md_version_21 : decode gb_Md_version 21 = .ok (.getfield 105, 3) := by decide +kernel
theorem gd_Md_version_24 : decode gb_Md_version 24 = .ok (.iastore, 1) := by decide +kernel
theorem gd_Md_version_25 : decode gb_Md_version 25 = .ok (.iconst 0, 1) := by decide +kernel
theorem gd_Md_version_26 : decode gb_Md_version 26 = .ok (.istore_n 1, 1) := by decide +kernel
theorem gd_Md_version_27 : decode gb_Md_version 27 = .ok (.iload_n 1, 1) := by decide +kernel
theorem gd_Md_version_28 : decode gb_Md_version 28 = .ok (.bipush 100, 2) := by decide +kernel
theorem gd_Md_version_30 : decode gb_Md_version 30 = .ok (.if_icmp .ge 46, 3) := by decide +kernel
theorem gd_Md_version_33 : decode gb_Md_version 33 = .ok (.aload_n 0, 1) := by decide +kernel
theorem gd_Md_version_34 : decode gb_Md_version 34 = .ok (.getfield 38, 3) := by decide +kernel
theorem gd_Md_version_37 : decode gb_Md_version 37 = .ok (.bipush 100, 2) := by decide +kernel
theorem gd_Md_version_39 : decode gb_Md_version 39 = .ok (.aload_n 0, 1) := by decide +kernel
theorem gd_Md_version_40 : decode gb_Md_version 40 = .ok (.getfield 88, 3) := by decide +kernel
theorem gd_Md_version_43 : decode gb_Md_version 43 = .ok (.imul, 1) := by decide +kernel
theorem gd_Md_version_44 : decode gb_Md_version 44 = .ok (.iload_n 1, 1) := by decide +kernel
theorem gd_Md_version_45 : decode gb_Md_version 45 = .ok (.iadd, 1) := by decide +kernel
theorem gd_Md_version_46 : decode gb_Md_version 46 = .ok (.aload_n 0, 1) := by decide +kernel
theorem gd_Md_version_47 : decode gb_Md_version 47 = .ok (.getfield 13, 3) := by decide +kernel
theorem gd_Md_version_50 : decode gb_Md_version 50 = .ok (.iload_n 1, 1) := by decide +kernel
theorem gd_Md_version_51 : decode gb_Md_version 51 = .ok (.baload, 1) := by decide +kernel
theorem gd_Md_version_52 : decode gb_Md_version 52 = .ok (.ifCond .eq 16, 3) := by decide +kernel
theorem gd_Md_version_55 : decode gb_Md_version 55 = .ok (.aload_n 0, 1) := by decide +kernel
theorem gd_Md_version_56 : decode gb_Md_version 56 = .ok (.getfield 20, 3) := by decide +kernel
theorem gd_Md_version_59 : decode gb_Md_version 59 = .ok (.iload_n 1, 1) := by decide +kernel
theorem gd_Md_version_60 : decode gb_Md_version 60 = .ok (.iaload, 1) := by decide +kernel
theorem gd_Md_version_61 : decode gb_Md_version 61 = .ok (.ifCond .le 7, 3) := by decide +kernel
theorem gd_Md_version_64 : decode gb_Md_version 64 = .ok (.iconst 1, 1) := by decide +kernel
theorem gd_Md_version_65 : decode gb_Md_version 65 = .ok (.goto 4, 3) := by decide +kernel
theorem gd_Md_version_68 : decode gb_Md_version 68 = .ok (.iconst 0, 1) := by decide +kernel
theorem gd_Md_version_69 : decode gb_Md_version 69 = .ok (.bastore, 1) := by decide +kernel
theorem gd_Md_version_70 : decode gb_Md_version 70 = .ok (.iinc 1 1, 3) := by decide +kernel
theorem gd_Md_version_73 : decode gb_Md_version 73 = .ok (.goto (-46), 3) := by decide +kernel
theorem gd_Md_version_76 : decode gb_Md_version 76 = .ok (.aload_n 0, 1) := by decide +kernel
theorem gd_Md_version_77 : decode gb_Md_version 77 = .ok (.dup, 1) := by decide +kernel
theorem gd_Md_version_78 : decode gb_Md_version 78 = .ok (.getfield 88, 3) := by decide +kernel
theorem gd_Md_version_81 : decode gb_Md_version 81 = .ok (.iconst 1, 1) := by decide +kernel
theorem gd_Md_version_82 : decode gb_Md_version 82 = .ok (.iadd, 1) := by decide +kernel
theorem gd_Md_version_83 : decode gb_Md_version 83 = .ok (.putfield 88, 3) := by decide +kernel
theorem gd_Md_version_86 : decode gb_Md_version 86 = .ok (.aload_n 0, 1) := by decide +kernel
theorem gd_Md_version_87 : decode gb_Md_version 87 = .ok (.dup, 1) := by decide +kernel
theorem gd_Md_version_88 : decode gb_Md_version 88 = .ok (.getfield 105, 3) := by decide +kernel
theorem gd_Md_version_91 : decode gb_Md_version 91 = .ok (.iconst 1, 1) := by decide +kernel
theorem gd_Md_version_92 : decode gb_Md_version 92 = .ok (.iadd, 1) := by decide +kernel
theorem gd_Md_version_93 : decode gb_Md_version 93 = .ok (.putfield 105, 3) := by decide +kernel
theorem gd_Md_version_96 : decode gb_Md_version 96 = .ok (.aload_n 0, 1) := by decide +kernel
theorem gd_Md_version_97 : decode gb_Md_version 97 = .ok (.getfield 105, 3) := by decide +kernel
theorem gd_Md_version_100 : decode gb_Md_version 100 = .ok (.iconst 1, 1) := by decide +kernel
theorem gd_Md_version_101 : decode gb_Md_version 101 = .ok (.isub, 1) := by decide +kernel
theorem gd_Md_version_102 : decode gb_Md_version 102 = .ok (.ireturn, 1) := by decide +kernel
theorem gd_Md_keptAs_0 : decode gb_Md_keptAs 0 = .ok (.iconst (-1), 1) := by decide +kernel
theorem gd_Md_keptAs_1 : decode gb_Md_keptAs 1 = .ok (.istore_n 2, 1) := by decide +kernel
theorem gd_Md_keptAs_2 : decode gb_Md_keptAs 2 = .ok (.iconst 0, 1) := by decide +kernel
theorem gd_Md_keptAs_3 : decode gb_Md_keptAs 3 = .ok (.istore_n 3, 1) := by decide +kernel
theorem gd_Md_keptAs_4 : decode gb_Md_keptAs 4 = .ok (.iload_n 3, 1) := by decide +kernel
theorem gd_Md_keptAs_5 : decode gb_Md_keptAs 5 = .ok (.aload_n 0, 1) := by decide +kernel
theorem gd_Md_keptAs_6 : decode gb_Md_keptAs 6 = .ok (.getfield 88, 3) := by decide +kernel
theorem gd_Md_keptAs_9 : decode gb_Md_keptAs 9 = .ok (.if_icmp .ge 25, 3) := by decide +kernel
theorem gd_Md_keptAs_12 : decode gb_Md_keptAs 12 = .ok (.aload_n 0, 1) := by decide +kernel
theorem gd_Md_keptAs_13 : decode gb_Md_keptAs 13 = .ok (.getfield 35, 3) := by decide +kernel
theorem gd_Md_keptAs_16 : decode gb_Md_keptAs 16 = .ok (.iload_n 3, 1) := by decide +kernel
theorem gd_Md_keptAs_17 : decode gb_Md_keptAs 17 = .ok (.iaload, 1) := by decide +kernel
theorem gd_Md_keptAs_18 : decode gb_Md_keptAs 18 = .ok (.iload_n 1, 1) := by decide +kernel
theorem gd_Md_keptAs_19 : decode gb_Md_keptAs 19 = .ok (.if_icmp .ne 7, 3) := by decide +kernel
theorem gd_Md_keptAs_22 : decode gb_Md_keptAs 22 = .ok (.iload_n 3, 1) := by decide +kernel
theorem gd_Md_keptAs_23 : decode gb_Md_keptAs 23 = .ok (.goto 4, 3) := by decide +kernel
theorem gd_Md_keptAs_26 : decode gb_Md_keptAs 26 = .ok (.iload_n 2, 1) := by decide +kernel
theorem gd_Md_keptAs_27 : decode gb_Md_keptAs 27 = .ok (.istore_n 2, 1) := by decide +kernel
theorem gd_Md_keptAs_28 : decode gb_Md_keptAs 28 = .ok (.iinc 3 1, 3) := by decide +kernel
theorem gd_Md_keptAs_31 : decode gb_Md_keptAs 31 = .ok (.goto (-27), 3) := by decide +kernel
theorem gd_Md_keptAs_34 : decode gb_Md_keptAs 34 = .ok (.iload_n 2, 1) := by decide +kernel
theorem gd_Md_keptAs_35 : decode gb_Md_keptAs 35 = .ok (.ireturn, 1) := by decide +kernel
theorem gd_Md_release_0 : decode gb_Md_release 0 = .ok (.aload_n 0, 1) := by decide +kernel
theorem gd_Md_release_1 : decode gb_Md_release 1 = .ok (.iload_n 1, 1) := by decide +kernel
theorem gd_Md_release_2 : decode gb_Md_release 2 = .ok (.invokevirtual 108, 3) := by decide +kernel
theorem gd_Md_release_5 : decode gb_Md_release 5 = .ok (.istore_n 2, 1) := by decide +kernel
theorem gd_Md_release_6 : decode gb_Md_release 6 = .ok (.iload_n 2, 1) := by decide +kernel
theorem gd_Md_release_7 : decode gb_Md_release 7 = .ok (.ifCond .ge 5, 3) := by decide +kernel
theorem gd_Md_release_10 : decode gb_Md_release 10 = .ok (.iconst (-1), 1) := by decide +kernel
theorem gd_Md_release_11 : decode gb_Md_release 11 = .ok (.ireturn, 1) := by decide +kernel
theorem gd_Md_release_12 : decode gb_Md_release 12 = .ok (.aload_n 0, 1) := by decide +kernel
theorem gd_Md_release_13 : decode gb_Md_release 13 = .ok (.dup, 1) := by decide +kernel
theorem gd_Md_release_14 : decode gb_Md_release 14 = .ok (.getfield 88, 3) := by decide +kernel
theorem gd_Md_release_17 : decode gb_Md_release 17 = .ok (.iconst 1, 1) := by decide +kernel
theorem gd_Md_release_18 : decode gb_Md_release 18 = .ok (.isub, 1) := by decide +kernel
theorem gd_Md_release_19 : decode gb_Md_release 19 = .ok (.putfield 88, 3) := by decide +kernel
theorem gd_Md_release_22 : decode gb_Md_release 22 = .ok (.iload_n 2, 1) := by decide +kernel
theorem gd_Md_release_23 : decode gb_Md_release 23 = .ok (.istore_n 3, 1) := by decide +kernel
theorem gd_Md_release_24 : decode gb_Md_release 24 = .ok (.iload_n 3, 1) := by decide +kernel
theorem gd_Md_release_25 : decode gb_Md_release 25 = .ok (.aload_n 0, 1) := by decide +kernel
theorem gd_Md_release_26 : decode gb_Md_release 26 = .ok (.getfield 88, 3) := by decide +kernel
theorem gd_Md_release_29 : decode gb_Md_release 29 = .ok (.if_icmp .ge 66, 3) := by decide +kernel
theorem gd_Md_release_32 : decode gb_Md_release 32 = .ok (.aload_n 0, 1) := by decide +kernel
theorem gd_Md_release_33 : decode gb_Md_release 33 = .ok (.getfield 35, 3) := by decide +kernel
theorem gd_Md_release_36 : decode gb_Md_release 36 = .ok (.iload_n 3, 1) := by decide +kernel
theorem gd_Md_release_37 : decode gb_Md_release 37 = .ok (.aload_n 0, 1) := by decide +kernel
theorem gd_Md_release_38 : decode gb_Md_release 38 = .ok (.getfield 35, 3) := by decide +kernel
theorem gd_Md_release_41 : decode gb_Md_release 41 = .ok (.iload_n 3, 1) := by decide +kernel
theorem gd_Md_release_42 : decode gb_Md_release 42 = .ok (.iconst 1, 1) := by decide +kernel
theorem gd_Md_release_43 : decode gb_Md_release 43 = .ok (.iadd, 1) := by decide +kernel
theorem gd_Md_release_44 : decode gb_Md_release 44 = .ok (.iaload, 1) := by decide +kernel
theorem gd_Md_release_45 : decode gb_Md_release 45 = .ok (.iastore, 1) := by decide +kernel
theorem gd_Md_release_46 : decode gb_Md_release 46 = .ok (.iconst 0, 1) := by decide +kernel
theorem gd_Md_release_47 : decode gb_Md_release 47 = .ok (.istore 4, 2) := by decide +kernel
theorem gd_Md_release_49 : decode gb_Md_release 49 = .ok (.iload 4, 2) := by decide +kernel
theorem gd_Md_release_51 : decode gb_Md_release 51 = .ok (.bipush 100, 2) := by decide +kernel
theorem gd_Md_release_53 : decode gb_Md_release 53 = .ok (.if_icmp .ge 36, 3) := by decide +kernel
theorem gd_Md_release_56 : decode gb_Md_release 56 = .ok (.aload_n 0, 1) := by decide +kernel
theorem gd_Md_release_57 : decode gb_Md_release 57 = .ok (.getfield 38, 3) := by decide +kernel
theorem gd_Md_release_60 : decode gb_Md_release 60 = .ok (.bipush 100, 2) := by decide +kernel
theorem gd_Md_release_62 : decode gb_Md_release 62 = .ok (.iload_n 3, 1) := by decide +kernel
theorem gd_Md_release_63 : decode gb_Md_release 63 = .ok (.imul, 1) := by decide +kernel
theorem gd_Md_release_64 : decode gb_Md_release 64 = .ok (.iload 4, 2) := by decide +kernel
theorem gd_Md_release_66 : decode gb_Md_release 66 = .ok (.iadd, 1) := by decide +kernel
theorem gd_Md_release_67 : decode gb_Md_release 67 = .ok (.aload_n 0, 1) := by decide +kernel
theorem gd_Md_release_68 : decode gb_Md_release 68 = .ok (.getfield 38, 3) := by decide +kernel
theorem gd_Md_release_71 : decode gb_Md_release 71 = .ok (.bipush 100, 2) := by decide +kernel
theorem gd_Md_release_73 : decode gb_Md_release 73 = .ok (.iload_n 3, 1) := by decide +kernel
theorem gd_Md_release_74 : decode gb_Md_release 74 = .ok (.imul, 1) := by decide +kernel
theorem gd_Md_release_75 : decode gb_Md_release 75 = .ok (.bipush 100, 2) := by decide +kernel
theorem gd_Md_release_77 : decode gb_Md_release 77 = .ok (.iadd, 1) := by decide +kernel
theorem gd_Md_release_78 : decode gb_Md_release 78 = .ok (.iload 4, 2) := by decide +kernel
theorem gd_Md_release_80 : decode gb_Md_release 80 = .ok (.iadd, 1) := by decide +kernel
theorem gd_Md_release_81 : decode gb_Md_release 81 = .ok (.baload, 1) := by decide +kernel
theorem gd_Md_release_82 : decode gb_Md_release 82 = .ok (.bastore, 1) := by decide +kernel
theorem gd_Md_release_83 : decode gb_Md_release 83 = .ok (.iinc 4 1, 3) := by decide +kernel
theorem gd_Md_release_86 : decode gb_Md_release 86 = .ok (.goto (-37), 3) := by decide +kernel
theorem gd_Md_release_89 : decode gb_Md_release 89 = .ok (.iinc 3 1, 3) := by decide +kernel
theorem gd_Md_release_92 : decode gb_Md_release 92 = .ok (.goto (-68), 3) := by decide +kernel
theorem gd_Md_release_95 : decode gb_Md_release 95 = .ok (.iconst 0, 1) := by decide +kernel
theorem gd_Md_release_96 : decode gb_Md_release 96 = .ok (.istore_n 3, 1) := by decide +kernel
theorem gd_Md_release_97 : decode gb_Md_release 97 = .ok (.iconst 0, 1) := by decide +kernel
theorem gd_Md_release_98 : decode gb_Md_release 98 = .ok (.istore 4, 2) := by decide +kernel
theorem gd_Md_release_100 : decode gb_Md_release 100 = .ok (.iload 4, 2) := by decide +kernel
theorem gd_Md_release_102 : decode gb_Md_release 102 = .ok (.aload_n 0, 1) := by decide +kernel
theorem gd_Md_release_103 : decode gb_Md_release 103 = .ok (.getfield 44, 3) := by decide +kernel
theorem gd_Md_release_106 : decode gb_Md_release 106 = .ok (.if_icmp .ge 39, 3) := by decide +kernel
theorem gd_Md_release_109 : decode gb_Md_release 109 = .ok (.aload_n 0, 1) := by decide +kernel
theorem gd_Md_release_110 : decode gb_Md_release 110 = .ok (.aload_n 0, 1) := by decide +kernel
theorem gd_Md_release_111 : decode gb_Md_release 111 = .ok (.getfield 29, 3) := by decide +kernel
theorem gd_Md_release_114 : decode gb_Md_release 114 = .ok (.iload 4, 2) := by decide +kernel
theorem gd_Md_release_116 : decode gb_Md_release 116 = .ok (.iaload, 1) := by decide +kernel
theorem gd_Md_release_117 : decode gb_Md_release 117 = .ok (.invokevirtual 99, 3) := by decide +kernel
theorem gd_Md_release_120 : decode gb_Md_release 120 = .ok (.ifCond .eq 19, 3) := by decide +kernel
theorem gd_Md_release_123 : decode gb_Md_release 123 = .ok (.aload_n 0, 1) := by decide +kernel
theorem gd_Md_release_124 : decode gb_Md_release 124 = .ok (.getfield 41, 3) := by decide +kernel
theorem gd_Md_release_127 : decode gb_Md_release 127 = .ok (.iload_n 3, 1) := by decide +kernel
theorem gd_Md_release_128 : decode gb_Md_release 128 = .ok (.aload_n 0, 1) := by decide +kernel
theorem gd_Md_release_129 : decode gb_Md_release 129 = .ok (.getfield 29, 3) := by decide +kernel
theorem gd_Md_release_132 : decode gb_Md_release 132 = .ok (.iload 4, 2) := by decide +kernel
theorem gd_Md_release_134 : decode gb_Md_release 134 = .ok (.iaload, 1) := by decide +kernel
theorem gd_Md_release_135 : decode gb_Md_release 135 = .ok (.iastore, 1) := by decide +kernel
theorem gd_Md_release_136 : decode gb_Md_release 136 = .ok (.iinc 3 1, 3) := by decide +kernel
theorem gd_Md_release_139 : decode gb_Md_release 139 = .ok (.iinc 4 1, 3) := by decide +kernel
theorem gd_Md_release_142 : decode gb_Md_release 142 = .ok (.goto (-42), 3) := by decide +kernel
theorem gd_Md_release_145 : decode gb_Md_release 145 = .ok (.iconst 0, 1) := by decide +kernel
theorem gd_Md_release_146 : decode gb_Md_release 146 = .ok (.istore 4, 2) := by decide +kernel
theorem gd_Md_release_148 : decode gb_Md_release 148 = .ok (.iload 4, 2) := by decide +kernel
theorem gd_Md_release_150 : decode gb_Md_release 150 = .ok (.iload_n 3, 1) := by decide +kernel
theorem gd_Md_release_151 : decode gb_Md_release 151 = .ok (.if_icmp .ge 20, 3) := by decide +kernel
theorem gd_Md_release_154 : decode gb_Md_release 154 = .ok (.aload_n 0, 1) := by decide +kernel
theorem gd_Md_release_155 : decode gb_Md_release 155 = .ok (.aload_n 0, 1) := by decide +kernel
theorem gd_Md_release_156 : decode gb_Md_release 156 = .ok (.getfield 41, 3) := by decide +kernel
theorem gd_Md_release_159 : decode gb_Md_release 159 = .ok (.iload 4, 2) := by decide +kernel
theorem gd_Md_release_161 : decode gb_Md_release 161 = .ok (.iaload, 1) := by decide +kernel
theorem gd_Md_release_162 : decode gb_Md_release 162 = .ok (.invokevirtual 102, 3) := by decide +kernel
theorem gd_Md_release_165 : decode gb_Md_release 165 = .ok (.iinc 4 1, 3) := by decide +kernel
theorem gd_Md_release_168 : decode gb_Md_release 168 = .ok (.goto (-20), 3) := by decide +kernel
theorem gd_Md_release_171 : decode gb_Md_release 171 = .ok (.iload_n 3, 1) := by decide +kernel
theorem gd_Md_release_172 : decode gb_Md_release 172 = .ok (.ireturn, 1) := by decide +kernel
theorem gd_Md_had_0 : decode gb_Md_had 0 = .ok (.aload_n 0, 1) := by decide +kernel
theorem gd_Md_had_1 : decode gb_Md_had 1 = .ok (.iload_n 1, 1) := by decide +kernel
theorem gd_Md_had_2 : decode gb_Md_had 2 = .ok (.invokevirtual 108, 3) := by decide +kernel
theorem gd_Md_had_5 : decode gb_Md_had 5 = .ok (.istore_n 3, 1) := by decide +kernel
theorem gd_Md_had_6 : decode gb_Md_had 6 = .ok (.iload_n 3, 1) := by decide +kernel
theorem gd_Md_had_7 : decode gb_Md_had 7 = .ok (.ifCond .lt 13, 3) := by decide +kernel
theorem gd_Md_had_10 : decode gb_Md_had 10 = .ok (.iload_n 2, 1) := by decide +kernel
theorem gd_Md_had_11 : decode gb_Md_had 11 = .ok (.iconst (-1), 1) := by decide +kernel
theorem gd_Md_had_12 : decode gb_Md_had 12 = .ok (.bipush 99, 2) := by decide +kernel
theorem gd_Md_had_14 : decode gb_Md_had 14 = .ok (.invokestatic 48, 3) := by decide +kernel
theorem gd_Md_had_17 : decode gb_Md_had 17 = .ok (.ifCond .ne 5, 3) := by decide +kernel
theorem gd_Md_had_20 : decode gb_Md_had 20 = .ok (.iconst (-1), 1) := by decide +kernel
theorem gd_Md_had_21 : decode gb_Md_had 21 = .ok (.ireturn, 1) := by decide +kernel
theorem gd_Md_had_22 : decode gb_Md_had 22 = .ok (.iload_n 2, 1) := by decide +kernel
theorem gd_Md_had_23 : decode gb_Md_had 23 = .ok (.ifCond .lt 18, 3) := by decide +kernel
theorem gd_Md_had_26 : decode gb_Md_had 26 = .ok (.aload_n 0, 1) := by decide +kernel
theorem gd_Md_had_27 : decode gb_Md_had 27 = .ok (.iload_n 3, 1) := by decide +kernel
theorem gd_Md_had_28 : decode gb_Md_had 28 = .ok (.iload_n 2, 1) := by decide +kernel
theorem gd_Md_had_29 : decode gb_Md_had 29 = .ok (.invokevirtual 91, 3) := by decide +kernel
theorem gd_Md_had_32 : decode gb_Md_had 32 = .ok (.ifCond .eq 7, 3) := by decide +kernel
theorem gd_Md_had_35 : decode gb_Md_had 35 = .ok (.iconst 1, 1) := by decide +kernel
theorem gd_Md_had_36 : decode gb_Md_had 36 = .ok (.goto 4, 3) := by decide +kernel
theorem gd_Md_had_39 : decode gb_Md_had 39 = .ok (.iconst 0, 1) := by decide +kernel
theorem gd_Md_had_40 : decode gb_Md_had 40 = .ok (.ireturn, 1) := by decide +kernel
theorem gd_Md_had_41 : decode gb_Md_had 41 = .ok (.iconst 0, 1) := by decide +kernel
theorem gd_Md_had_42 : decode gb_Md_had 42 = .ok (.istore 4, 2) := by decide +kernel
theorem gd_Md_had_44 : decode gb_Md_had 44 = .ok (.iconst 0, 1) := by decide +kernel
theorem gd_Md_had_45 : decode gb_Md_had 45 = .ok (.istore 5, 2) := by decide +kernel
theorem gd_Md_had_47 : decode gb_Md_had 47 = .ok (.iload 5, 2) := by decide +kernel
theorem gd_Md_had_49 : decode gb_Md_had 49 = .ok (.bipush 100, 2) := by decide +kernel
theorem gd_Md_had_51 : decode gb_Md_had 51 = .ok (.if_icmp .ge 29, 3) := by decide +kernel
theorem gd_Md_had_54 : decode gb_Md_had 54 = .ok (.iload 4, 2) := by decide +kernel
theorem gd_Md_had_56 : decode gb_Md_had 56 = .ok (.aload_n 0, 1) := by decide +kernel
theorem gd_Md_had_57 : decode gb_Md_had 57 = .ok (.iload_n 3, 1) := by decide +kernel
theorem gd_Md_had_58 : decode gb_Md_had 58 = .ok (.iload 5, 2) := by decide +kernel
theorem gd_Md_had_60 : decode gb_Md_had 60 = .ok (.invokevirtual 91, 3) := by decide +kernel
theorem gd_Md_had_63 : decode gb_Md_had 63 = .ok (.ifCond .eq 7, 3) := by decide +kernel
theorem gd_Md_had_66 : decode gb_Md_had 66 = .ok (.iconst 1, 1) := by decide +kernel
theorem gd_Md_had_67 : decode gb_Md_had 67 = .ok (.goto 4, 3) := by decide +kernel
theorem gd_Md_had_70 : decode gb_Md_had 70 = .ok (.iconst 0, 1) := by decide +kernel
theorem gd_Md_had_71 : decode gb_Md_had 71 = .ok (.iadd, 1) := by decide +kernel
theorem gd_Md_had_72 : decode gb_Md_had 72 = .ok (.istore 4, 2) := by decide +kernel
theorem gd_Md_had_74 : decode gb_Md_had 74 = .ok (.iinc 5 1, 3) := by decide +kernel
theorem gd_Md_had_77 : decode gb_Md_had 77 = .ok (.goto (-30), 3) := by decide +kernel
theorem gd_Md_had_80 : decode gb_Md_had 80 = .ok (.iload 4, 2) := by decide +kernel
theorem gd_Md_had_82 : decode gb_Md_had 82 = .ok (.ireturn, 1) := by decide +kernel
theorem gd_Md_shared_0 : decode gb_Md_shared 0 = .ok (.aload_n 0, 1) := by decide +kernel
theorem gd_Md_shared_1 : decode gb_Md_shared 1 = .ok (.iload_n 1, 1) := by decide +kernel
theorem gd_Md_shared_2 : decode gb_Md_shared 2 = .ok (.invokevirtual 78, 3) := by decide +kernel
theorem gd_Md_shared_5 : decode gb_Md_shared 5 = .ok (.istore_n 2, 1) := by decide +kernel
theorem gd_Md_shared_6 : decode gb_Md_shared 6 = .ok (.aload_n 0, 1) := by decide +kernel
theorem gd_Md_shared_7 : decode gb_Md_shared 7 = .ok (.getfield 29, 3) := by decide +kernel
theorem gd_Md_shared_10 : decode gb_Md_shared 10 = .ok (.iload_n 2, 1) := by decide +kernel
theorem gd_Md_shared_11 : decode gb_Md_shared 11 = .ok (.iaload, 1) := by decide +kernel
theorem gd_Md_shared_12 : decode gb_Md_shared 12 = .ok (.istore_n 3, 1) := by decide +kernel
theorem gd_Md_shared_13 : decode gb_Md_shared 13 = .ok (.aload_n 0, 1) := by decide +kernel
theorem gd_Md_shared_14 : decode gb_Md_shared 14 = .ok (.getfield 23, 3) := by decide +kernel
theorem gd_Md_shared_17 : decode gb_Md_shared 17 = .ok (.iload_n 3, 1) := by decide +kernel
theorem gd_Md_shared_18 : decode gb_Md_shared 18 = .ok (.iaload, 1) := by decide +kernel
theorem gd_Md_shared_19 : decode gb_Md_shared 19 = .ok (.istore 4, 2) := by decide +kernel
theorem gd_Md_shared_21 : decode gb_Md_shared 21 = .ok (.iload_n 2, 1) := by decide +kernel
theorem gd_Md_shared_22 : decode gb_Md_shared 22 = .ok (.iconst 1, 1) := by decide +kernel
theorem gd_Md_shared_23 : decode gb_Md_shared 23 = .ok (.iadd, 1) := by decide +kernel
theorem gd_Md_shared_24 : decode gb_Md_shared 24 = .ok (.istore 5, 2) := by decide +kernel
theorem gd_Md_shared_26 : decode gb_Md_shared 26 = .ok (.iload 5, 2) := by decide +kernel
theorem gd_Md_shared_28 : decode gb_Md_shared 28 = .ok (.iload_n 2, 1) := by decide +kernel
theorem gd_Md_shared_29 : decode gb_Md_shared 29 = .ok (.aload_n 0, 1) := by decide +kernel
theorem gd_Md_shared_30 : decode gb_Md_shared 30 = .ok (.getfield 32, 3) := by decide +kernel
theorem gd_Md_shared_33 : decode gb_Md_shared 33 = .ok (.iload_n 1, 1) := by decide +kernel
theorem gd_Md_shared_34 : decode gb_Md_shared 34 = .ok (.iaload, 1) := by decide +kernel
theorem gd_Md_shared_35 : decode gb_Md_shared 35 = .ok (.iadd, 1) := by decide +kernel
theorem gd_Md_shared_36 : decode gb_Md_shared 36 = .ok (.if_icmp .ge 98, 3) := by decide +kernel
theorem gd_Md_shared_39 : decode gb_Md_shared 39 = .ok (.aload_n 0, 1) := by decide +kernel
theorem gd_Md_shared_40 : decode gb_Md_shared 40 = .ok (.getfield 29, 3) := by decide +kernel
theorem gd_Md_shared_43 : decode gb_Md_shared 43 = .ok (.iload 5, 2) := by decide +kernel
theorem gd_Md_shared_45 : decode gb_Md_shared 45 = .ok (.iaload, 1) := by decide +kernel
theorem gd_Md_shared_46 : decode gb_Md_shared 46 = .ok (.istore 6, 2) := by decide +kernel
theorem gd_Md_shared_48 : decode gb_Md_shared 48 = .ok (.iconst 0, 1) := by decide +kernel
theorem gd_Md_shared_49 : decode gb_Md_shared 49 = .ok (.istore 7, 2) := by decide +kernel
theorem gd_Md_shared_51 : decode gb_Md_shared 51 = .ok (.iload 7, 2) := by decide +kernel
theorem gd_Md_shared_53 : decode gb_Md_shared 53 = .ok (.iload 4, 2) := by decide +kernel
theorem gd_Md_shared_55 : decode gb_Md_shared 55 = .ok (.if_icmp .ge 49, 3) := by decide +kernel
theorem gd_Md_shared_58 : decode gb_Md_shared 58 = .ok (.iload 7, 2) := by decide +kernel
theorem gd_Md_shared_60 : decode gb_Md_shared 60 = .ok (.aload_n 0, 1) := by decide +kernel
theorem gd_Md_shared_61 : decode gb_Md_shared 61 = .ok (.getfield 23, 3) := by decide +kernel
theorem gd_Md_shared_64 : decode gb_Md_shared 64 = .ok (.iload 6, 2) := by decide +kernel
theorem gd_Md_shared_66 : decode gb_Md_shared 66 = .ok (.iaload, 1) := by decide +kernel
theorem gd_Md_shared_67 : decode gb_Md_shared 67 = .ok (.if_icmp .ge 37, 3) := by decide +kernel
theorem gd_Md_shared_70 : decode gb_Md_shared 70 = .ok (.aload_n 0, 1) := by decide +kernel
theorem gd_Md_shared_71 : decode gb_Md_shared 71 = .ok (.getfield 26, 3) := by decide +kernel
theorem gd_Md_shared_74 : decode gb_Md_shared 74 = .ok (.bipush 16, 2) := by decide +kernel
theorem gd_Md_shared_76 : decode gb_Md_shared 76 = .ok (.iload 6, 2) := by decide +kernel
theorem gd_Md_shared_78 : decode gb_Md_shared 78 = .ok (.imul, 1) := by decide +kernel
theorem gd_Md_shared_79 : decode gb_Md_shared 79 = .ok (.iload 7, 2) := by decide +kernel
theorem gd_Md_shared_81 : decode gb_Md_shared 81 = .ok (.iadd, 1) := by decide +kernel
theorem gd_Md_shared_82 : decode gb_Md_shared 82 = .ok (.iaload, 1) := by decide +kernel
theorem gd_Md_shared_83 : decode gb_Md_shared 83 = .ok (.aload_n 0, 1) := by decide +kernel
theorem gd_Md_shared_84 : decode gb_Md_shared 84 = .ok (.getfield 26, 3) := by decide +kernel
theorem gd_Md_shared_87 : decode gb_Md_shared 87 = .ok (.bipush 16, 2) := by decide +kernel
theorem gd_Md_shared_89 : decode gb_Md_shared 89 = .ok (.iload_n 3, 1) := by decide +kernel
theorem gd_Md_shared_90 : decode gb_Md_shared 90 = .ok (.imul, 1) := by decide +kernel
theorem gd_Md_shared_91 : decode gb_Md_shared 91 = .ok (.iload 7, 2) := by decide +kernel
theorem gd_Md_shared_93 : decode gb_Md_shared 93 = .ok (.iadd, 1) := by decide +kernel
theorem gd_Md_shared_94 : decode gb_Md_shared 94 = .ok (.iaload, 1) := by decide +kernel
theorem gd_Md_shared_95 : decode gb_Md_shared 95 = .ok (.if_icmp .ne 9, 3) := by decide +kernel
theorem gd_Md_shared_98 : decode gb_Md_shared 98 = .ok (.iinc 7 1, 3) := by decide +kernel
theorem gd_Md_shared_101 : decode gb_Md_shared 101 = .ok (.goto (-50), 3) := by decide +kernel
theorem gd_Md_shared_104 : decode gb_Md_shared 104 = .ok (.aload_n 0, 1) := by decide +kernel
theorem gd_Md_shared_105 : decode gb_Md_shared 105 = .ok (.getfield 17, 3) := by decide +kernel
theorem gd_Md_shared_108 : decode gb_Md_shared 108 = .ok (.iload 6, 2) := by decide +kernel
theorem gd_Md_shared_110 : decode gb_Md_shared 110 = .ok (.iaload, 1) := by decide +kernel
theorem gd_Md_shared_111 : decode gb_Md_shared 111 = .ok (.aload_n 0, 1) := by decide +kernel
theorem gd_Md_shared_112 : decode gb_Md_shared 112 = .ok (.getfield 17, 3) := by decide +kernel
theorem gd_Md_shared_115 : decode gb_Md_shared 115 = .ok (.iload_n 3, 1) := by decide +kernel
theorem gd_Md_shared_116 : decode gb_Md_shared 116 = .ok (.iaload, 1) := by decide +kernel
theorem gd_Md_shared_117 : decode gb_Md_shared 117 = .ok (.if_icmp .ne 8, 3) := by decide +kernel
theorem gd_Md_shared_120 : decode gb_Md_shared 120 = .ok (.iload 7, 2) := by decide +kernel
theorem gd_Md_shared_122 : decode gb_Md_shared 122 = .ok (.goto 4, 3) := by decide +kernel
theorem gd_Md_shared_125 : decode gb_Md_shared 125 = .ok (.iconst 0, 1) := by decide +kernel
theorem gd_Md_shared_126 : decode gb_Md_shared 126 = .ok (.istore 4, 2) := by decide +kernel
theorem gd_Md_shared_128 : decode gb_Md_shared 128 = .ok (.iinc 5 1, 3) := by decide +kernel
theorem gd_Md_shared_131 : decode gb_Md_shared 131 = .ok (.goto (-105), 3) := by decide +kernel
theorem gd_Md_shared_134 : decode gb_Md_shared 134 = .ok (.iload 4, 2) := by decide +kernel
theorem gd_Md_shared_136 : decode gb_Md_shared 136 = .ok (.ireturn, 1) := by decide +kernel
theorem gd_Md_cost_0 : decode gb_Md_cost 0 = .ok (.aload_n 0, 1) := by decide +kernel
theorem gd_Md_cost_1 : decode gb_Md_cost 1 = .ok (.iload_n 1, 1) := by decide +kernel
theorem gd_Md_cost_2 : decode gb_Md_cost 2 = .ok (.invokevirtual 111, 3) := by decide +kernel
theorem gd_Md_cost_5 : decode gb_Md_cost 5 = .ok (.istore_n 2, 1) := by decide +kernel
theorem gd_Md_cost_6 : decode gb_Md_cost 6 = .ok (.iload_n 2, 1) := by decide +kernel
theorem gd_Md_cost_7 : decode gb_Md_cost 7 = .ok (.istore_n 3, 1) := by decide +kernel
theorem gd_Md_cost_8 : decode gb_Md_cost 8 = .ok (.aload_n 0, 1) := by decide +kernel
theorem gd_Md_cost_9 : decode gb_Md_cost 9 = .ok (.iload_n 1, 1) := by decide +kernel
theorem gd_Md_cost_10 : decode gb_Md_cost 10 = .ok (.invokevirtual 78, 3) := by decide +kernel
theorem gd_Md_cost_13 : decode gb_Md_cost 13 = .ok (.istore 4, 2) := by decide +kernel
theorem gd_Md_cost_15 : decode gb_Md_cost 15 = .ok (.iload 4, 2) := by decide +kernel
theorem gd_Md_cost_17 : decode gb_Md_cost 17 = .ok (.aload_n 0, 1) := by decide +kernel
theorem gd_Md_cost_18 : decode gb_Md_cost 18 = .ok (.iload_n 1, 1) := by decide +kernel
theorem gd_Md_cost_19 : decode gb_Md_cost 19 = .ok (.invokevirtual 78, 3) := by decide +kernel
theorem gd_Md_cost_22 : decode gb_Md_cost 22 = .ok (.aload_n 0, 1) := by decide +kernel
theorem gd_Md_cost_23 : decode gb_Md_cost 23 = .ok (.getfield 32, 3) := by decide +kernel
theorem gd_Md_cost_26 : decode gb_Md_cost 26 = .ok (.iload_n 1, 1) := by decide +kernel
theorem gd_Md_cost_27 : decode gb_Md_cost 27 = .ok (.iaload, 1) := by decide +kernel
theorem gd_Md_cost_28 : decode gb_Md_cost 28 = .ok (.iadd, 1) := by decide +kernel
theorem gd_Md_cost_29 : decode gb_Md_cost 29 = .ok (.if_icmp .ge 26, 3) := by decide +kernel
theorem gd_Md_cost_32 : decode gb_Md_cost 32 = .ok (.iload_n 3, 1) := by decide +kernel
theorem gd_Md_cost_33 : decode gb_Md_cost 33 = .ok (.aload_n 0, 1) := by decide +kernel
theorem gd_Md_cost_34 : decode gb_Md_cost 34 = .ok (.getfield 23, 3) := by decide +kernel
theorem gd_Md_cost_37 : decode gb_Md_cost 37 = .ok (.aload_n 0, 1) := by decide +kernel
theorem gd_Md_cost_38 : decode gb_Md_cost 38 = .ok (.getfield 29, 3) := by decide +kernel
theorem gd_Md_cost_41 : decode gb_Md_cost 41 = .ok (.iload 4, 2) := by decide +kernel
theorem gd_Md_cost_43 : decode gb_Md_cost 43 = .ok (.iaload, 1) := by decide +kernel
theorem gd_Md_cost_44 : decode gb_Md_cost 44 = .ok (.iaload, 1) := by decide +kernel
theorem gd_Md_cost_45 : decode gb_Md_cost 45 = .ok (.iload_n 2, 1) := by decide +kernel
theorem gd_Md_cost_46 : decode gb_Md_cost 46 = .ok (.isub, 1) := by decide +kernel
theorem gd_Md_cost_47 : decode gb_Md_cost 47 = .ok (.iadd, 1) := by decide +kernel
theorem gd_Md_cost_48 : decode gb_Md_cost 48 = .ok (.istore_n 3, 1) := by decide +kernel
theorem gd_Md_cost_49 : decode gb_Md_cost 49 = .ok (.iinc 4 1, 3) := by decide +kernel
theorem gd_Md_cost_52 : decode gb_Md_cost 52 = .ok (.goto (-37), 3) := by decide +kernel
theorem gd_Md_cost_55 : decode gb_Md_cost 55 = .ok (.iload_n 3, 1) := by decide +kernel
theorem gd_Md_cost_56 : decode gb_Md_cost 56 = .ok (.ireturn, 1) := by decide +kernel
theorem gd_Md_leaf_0 : decode gb_Md_leaf 0 = .ok (.iload_n 1, 1) := by decide +kernel
theorem gd_Md_leaf_1 : decode gb_Md_leaf 1 = .ok (.iconst 0, 1) := by decide +kernel
theorem gd_Md_leaf_2 : decode gb_Md_leaf 2 = .ok (.aload_n 0, 1) := by decide +kernel
theorem gd_Md_leaf_3 : decode gb_Md_leaf 3 = .ok (.getfield 61, 3) := by decide +kernel
theorem gd_Md_leaf_6 : decode gb_Md_leaf 6 = .ok (.iconst 1, 1) := by decide +kernel
theorem gd_Md_leaf_7 : decode gb_Md_leaf 7 = .ok (.isub, 1) := by decide +kernel
theorem gd_Md_leaf_8 : decode gb_Md_leaf 8 = .ok (.invokestatic 48, 3) := by decide +kernel
theorem gd_Md_leaf_11 : decode gb_Md_leaf 11 = .ok (.ifCond .ne 5, 3) := by decide +kernel
theorem gd_Md_leaf_14 : decode gb_Md_leaf 14 = .ok (.iconst (-1), 1) := by decide +kernel
theorem gd_Md_leaf_15 : decode gb_Md_leaf 15 = .ok (.ireturn, 1) := by decide +kernel
theorem gd_Md_leaf_16 : decode gb_Md_leaf 16 = .ok (.iload_n 2, 1) := by decide +kernel
theorem gd_Md_leaf_17 : decode gb_Md_leaf 17 = .ok (.tableswitch 61 0 3 #[31, 38, 44, 50], 31) := by decide +kernel
theorem gd_Md_leaf_48 : decode gb_Md_leaf 48 = .ok (.aload_n 0, 1) := by decide +kernel
theorem gd_Md_leaf_49 : decode gb_Md_leaf 49 = .ok (.getfield 32, 3) := by decide +kernel
theorem gd_Md_leaf_52 : decode gb_Md_leaf 52 = .ok (.iload_n 1, 1) := by decide +kernel
theorem gd_Md_leaf_53 : decode gb_Md_leaf 53 = .ok (.iaload, 1) := by decide +kernel
theorem gd_Md_leaf_54 : decode gb_Md_leaf 54 = .ok (.ireturn, 1) := by decide +kernel
theorem gd_Md_leaf_55 : decode gb_Md_leaf 55 = .ok (.aload_n 0, 1) := by decide +kernel
theorem gd_Md_leaf_56 : decode gb_Md_leaf 56 = .ok (.iload_n 1, 1) := by decide +kernel
theorem gd_Md_leaf_57 : decode gb_Md_leaf 57 = .ok (.invokevirtual 111, 3) := by decide +kernel
theorem gd_Md_leaf_60 : decode gb_Md_leaf 60 = .ok (.ireturn, 1) := by decide +kernel
theorem gd_Md_leaf_61 : decode gb_Md_leaf 61 = .ok (.aload_n 0, 1) := by decide +kernel
theorem gd_Md_leaf_62 : decode gb_Md_leaf 62 = .ok (.iload_n 1, 1) := by decide +kernel
theorem gd_Md_leaf_63 : decode gb_Md_leaf 63 = .ok (.invokevirtual 114, 3) := by decide +kernel
theorem gd_Md_leaf_66 : decode gb_Md_leaf 66 = .ok (.ireturn, 1) := by decide +kernel
theorem gd_Md_leaf_67 : decode gb_Md_leaf 67 = .ok (.aload_n 0, 1) := by decide +kernel
theorem gd_Md_leaf_68 : decode gb_Md_leaf 68 = .ok (.getfield 29, 3) := by decide +kernel
theorem gd_Md_leaf_71 : decode gb_Md_leaf 71 = .ok (.aload_n 0, 1) := by decide +kernel
theorem gd_Md_leaf_72 : decode gb_Md_leaf 72 = .ok (.iload_n 1, 1) := by decide +kernel
theorem gd_Md_leaf_73 : decode gb_Md_leaf 73 = .ok (.invokevirtual 78, 3) := by decide +kernel
theorem gd_Md_leaf_76 : decode gb_Md_leaf 76 = .ok (.iaload, 1) := by decide +kernel
theorem gd_Md_leaf_77 : decode gb_Md_leaf 77 = .ok (.ireturn, 1) := by decide +kernel
theorem gd_Md_leaf_78 : decode gb_Md_leaf 78 = .ok (.iconst (-1), 1) := by decide +kernel
theorem gd_Md_leaf_79 : decode gb_Md_leaf 79 = .ok (.ireturn, 1) := by decide +kernel
theorem gd_Md_count_0 : decode gb_Md_count 0 = .ok (.iconst 0, 1) := by decide +kernel
theorem gd_Md_count_1 : decode gb_Md_count 1 = .ok (.istore_n 2, 1) := by decide +kernel
theorem gd_Md_count_2 : decode gb_Md_count 2 = .ok (.iload_n 1, 1) := by decide +kernel
theorem gd_Md_count_3 : decode gb_Md_count 3 = .ok (.tableswitch 132 0 6 #[41, 46, 51, 56, 61, 101, 106], 41) := by decide +kernel
theorem gd_Md_count_44 : decode gb_Md_count 44 = .ok (.aload_n 0, 1) := by decide +kernel
theorem gd_Md_count_45 : decode gb_Md_count 45 = .ok (.getfield 44, 3) := by decide +kernel
theorem gd_Md_count_48 : decode gb_Md_count 48 = .ok (.ireturn, 1) := by decide +kernel
theorem gd_Md_count_49 : decode gb_Md_count 49 = .ok (.aload_n 0, 1) := by decide +kernel
theorem gd_Md_count_50 : decode gb_Md_count 50 = .ok (.getfield 61, 3) := by decide +kernel
theorem gd_Md_count_53 : decode gb_Md_count 53 = .ok (.ireturn, 1) := by decide +kernel
theorem gd_Md_count_54 : decode gb_Md_count 54 = .ok (.aload_n 0, 1) := by decide +kernel
theorem gd_Md_count_55 : decode gb_Md_count 55 = .ok (.getfield 105, 3) := by decide +kernel
theorem gd_Md_count_58 : decode gb_Md_count 58 = .ok (.ireturn, 1) := by decide +kernel
theorem gd_Md_count_59 : decode gb_Md_count 59 = .ok (.aload_n 0, 1) := by decide +kernel
theorem gd_Md_count_60 : decode gb_Md_count 60 = .ok (.getfield 88, 3) := by decide +kernel
theorem gd_Md_count_63 : decode gb_Md_count 63 = .ok (.ireturn, 1) := by decide +kernel
theorem gd_Md_count_64 : decode gb_Md_count 64 = .ok (.iconst 0, 1) := by decide +kernel
theorem gd_Md_count_65 : decode gb_Md_count 65 = .ok (.istore_n 3, 1) := by decide +kernel
theorem gd_Md_count_66 : decode gb_Md_count 66 = .ok (.iload_n 3, 1) := by decide +kernel
theorem gd_Md_count_67 : decode gb_Md_count 67 = .ok (.aload_n 0, 1) := by decide +kernel
theorem gd_Md_count_68 : decode gb_Md_count 68 = .ok (.getfield 44, 3) := by decide +kernel
theorem gd_Md_count_71 : decode gb_Md_count 71 = .ok (.if_icmp .ge 31, 3) := by decide +kernel
theorem gd_Md_count_74 : decode gb_Md_count 74 = .ok (.iload_n 2, 1) := by decide +kernel
theorem gd_Md_count_75 : decode gb_Md_count 75 = .ok (.aload_n 0, 1) := by decide +kernel
theorem gd_Md_count_76 : decode gb_Md_count 76 = .ok (.getfield 20, 3) := by decide +kernel
theorem gd_Md_count_79 : decode gb_Md_count 79 = .ok (.aload_n 0, 1) := by decide +kernel
theorem gd_Md_count_80 : decode gb_Md_count 80 = .ok (.getfield 29, 3) := by decide +kernel
theorem gd_Md_count_83 : decode gb_Md_count 83 = .ok (.iload_n 3, 1) := by decide +kernel
theorem gd_Md_count_84 : decode gb_Md_count 84 = .ok (.iaload, 1) := by decide +kernel
theorem gd_Md_count_85 : decode gb_Md_count 85 = .ok (.iaload, 1) := by decide +kernel
theorem gd_Md_count_86 : decode gb_Md_count 86 = .ok (.ifCond .ne 7, 3) := by decide +kernel
theorem gd_Md_count_89 : decode gb_Md_count 89 = .ok (.iconst 1, 1) := by decide +kernel
theorem gd_Md_count_90 : decode gb_Md_count 90 = .ok (.goto 4, 3) := by decide +kernel
theorem gd_Md_count_93 : decode gb_Md_count 93 = .ok (.iconst 0, 1) := by decide +kernel
theorem gd_Md_count_94 : decode gb_Md_count 94 = .ok (.iadd, 1) := by decide +kernel
theorem gd_Md_count_95 : decode gb_Md_count 95 = .ok (.istore_n 2, 1) := by decide +kernel
theorem gd_Md_count_96 : decode gb_Md_count 96 = .ok (.iinc 3 1, 3) := by decide +kernel
theorem gd_Md_count_99 : decode gb_Md_count 99 = .ok (.goto (-33), 3) := by decide +kernel
theorem gd_Md_count_102 : decode gb_Md_count 102 = .ok (.iload_n 2, 1) := by decide +kernel
theorem gd_Md_count_103 : decode gb_Md_count 103 = .ok (.ireturn, 1) := by decide +kernel
theorem gd_Md_count_104 : decode gb_Md_count 104 = .ok (.aload_n 0, 1) := by decide +kernel
theorem gd_Md_count_105 : decode gb_Md_count 105 = .ok (.getfield 54, 3) := by decide +kernel
theorem gd_Md_count_108 : decode gb_Md_count 108 = .ok (.ireturn, 1) := by decide +kernel
theorem gd_Md_count_109 : decode gb_Md_count 109 = .ok (.iconst 0, 1) := by decide +kernel
theorem gd_Md_count_110 : decode gb_Md_count 110 = .ok (.istore_n 3, 1) := by decide +kernel
theorem gd_Md_count_111 : decode gb_Md_count 111 = .ok (.iload_n 3, 1) := by decide +kernel
theorem gd_Md_count_112 : decode gb_Md_count 112 = .ok (.aload_n 0, 1) := by decide +kernel
theorem gd_Md_count_113 : decode gb_Md_count 113 = .ok (.getfield 61, 3) := by decide +kernel
theorem gd_Md_count_116 : decode gb_Md_count 116 = .ok (.if_icmp .ge 17, 3) := by decide +kernel
theorem gd_Md_count_119 : decode gb_Md_count 119 = .ok (.iload_n 2, 1) := by decide +kernel
theorem gd_Md_count_120 : decode gb_Md_count 120 = .ok (.aload_n 0, 1) := by decide +kernel
theorem gd_Md_count_121 : decode gb_Md_count 121 = .ok (.iload_n 3, 1) := by decide +kernel
theorem gd_Md_count_122 : decode gb_Md_count 122 = .ok (.invokevirtual 114, 3) := by decide +kernel
theorem gd_Md_count_125 : decode gb_Md_count 125 = .ok (.iadd, 1) := by decide +kernel
theorem gd_Md_count_126 : decode gb_Md_count 126 = .ok (.istore_n 2, 1) := by decide +kernel
theorem gd_Md_count_127 : decode gb_Md_count 127 = .ok (.iinc 3 1, 3) := by decide +kernel
theorem gd_Md_count_130 : decode gb_Md_count 130 = .ok (.goto (-19), 3) := by decide +kernel
theorem gd_Md_count_133 : decode gb_Md_count 133 = .ok (.iload_n 2, 1) := by decide +kernel
theorem gd_Md_count_134 : decode gb_Md_count 134 = .ok (.ireturn, 1) := by decide +kernel
theorem gd_Md_count_135 : decode gb_Md_count 135 = .ok (.iconst (-1), 1) := by decide +kernel
theorem gd_Md_count_136 : decode gb_Md_count 136 = .ok (.ireturn, 1) := by decide +kernel
