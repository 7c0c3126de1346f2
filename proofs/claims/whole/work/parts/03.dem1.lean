theorem gd_Md_come_90 : decode gb_Md_come 90 = .ok (.iload 4, 2) := by decide +kernel
theorem gd_Md_come_92 : decode gb_Md_come 92 = .ok (.aload_n 0, 1) := by decide +kernel
theorem gd_Md_come_93 : decode gb_Md_come 93 = .ok (.getfield 29, 3) := by decide +kernel
theorem gd_Md_come_96 : decode gb_Md_come 96 = .ok (.iload 4, 2) := by decide +kernel
theorem gd_Md_come_98 : decode gb_Md_come 98 = .ok (.iconst 1, 1) := by decide +kernel
theorem gd_Md_come_99 : decode gb_Md_come 99 = .ok (.isub, 1) := by decide +kernel
theorem gd_Md_come_100 : decode gb_Md_come 100 = .ok (.iaload, 1) := by decide +kernel
theorem gd_Md_come_101 : decode gb_Md_come 101 = .ok (.iastore, 1) := by decide +kernel
theorem gd_Md_come_102 : decode gb_Md_come 102 = .ok (.iinc 4 (-1), 3) := by decide +kernel
theorem gd_Md_come_105 : decode gb_Md_come 105 = .ok (.goto (-25), 3) := by decide +kernel
theorem gd_Md_come_108 : decode gb_Md_come 108 = .ok (.aload_n 0, 1) := by decide +kernel
theorem gd_Md_come_109 : decode gb_Md_come 109 = .ok (.getfield 29, 3) := by decide +kernel
theorem gd_Md_come_112 : decode gb_Md_come 112 = .ok (.iload_n 3, 1) := by decide +kernel
theorem gd_Md_come_113 : decode gb_Md_come 113 = .ok (.iload_n 1, 1) := by decide +kernel
theorem gd_Md_come_114 : decode gb_Md_come 114 = .ok (.iastore, 1) := by decide +kernel
theorem gd_Md_come_115 : decode gb_Md_come 115 = .ok (.aload_n 0, 1) := by decide +kernel
theorem gd_Md_come_116 : decode gb_Md_come 116 = .ok (.dup, 1) := by decide +kernel
theorem gd_Md_come_117 : decode gb_Md_come 117 = .ok (.getfield 44, 3) := by decide +kernel
theorem gd_Md_come_120 : decode gb_Md_come 120 = .ok (.iconst 1, 1) := by decide +kernel
theorem gd_Md_come_121 : decode gb_Md_come 121 = .ok (.iadd, 1) := by decide +kernel
theorem gd_Md_come_122 : decode gb_Md_come 122 = .ok (.putfield 44, 3) := by decide +kernel
theorem gd_Md_come_125 : decode gb_Md_come 125 = .ok (.aload_n 0, 1) := by decide +kernel
theorem gd_Md_come_126 : decode gb_Md_come 126 = .ok (.getfield 61, 3) := by decide +kernel
theorem gd_Md_come_129 : decode gb_Md_come 129 = .ok (.ifCond .ne 9, 3) := by decide +kernel
theorem gd_Md_come_132 : decode gb_Md_come 132 = .ok (.aload_n 0, 1) := by decide +kernel
theorem gd_Md_come_133 : decode gb_Md_come 133 = .ok (.iconst 0, 1) := by decide +kernel
theorem gd_Md_come_134 : decode gb_Md_come 134 = .ok (.iconst 0, 1) := by decide +kernel
theorem gd_Md_come_135 : decode gb_Md_come 135 = .ok (.invokevirtual 75, 3) := by decide +kernel
theorem gd_Md_come_138 : decode gb_Md_come 138 = .ok (.iconst 0, 1) := by decide +kernel
theorem gd_Md_come_139 : decode gb_Md_come 139 = .ok (.istore 4, 2) := by decide +kernel
theorem gd_Md_come_141 : decode gb_Md_come 141 = .ok (.iload 4, 2) := by decide +kernel
theorem gd_Md_come_143 : decode gb_Md_come 143 = .ok (.iconst 1, 1) := by decide +kernel
theorem gd_Md_come_144 : decode gb_Md_come 144 = .ok (.iadd, 1) := by decide +kernel
theorem gd_Md_come_145 : decode gb_Md_come 145 = .ok (.aload_n 0, 1) := by decide +kernel
theorem gd_Md_come_146 : decode gb_Md_come 146 = .ok (.getfield 61, 3) := by decide +kernel
theorem gd_Md_come_149 : decode gb_Md_come 149 = .ok (.if_icmp .ge 21, 3) := by decide +kernel
theorem gd_Md_come_152 : decode gb_Md_come 152 = .ok (.aload_n 0, 1) := by decide +kernel
theorem gd_Md_come_153 : decode gb_Md_come 153 = .ok (.iload 4, 2) := by decide +kernel
theorem gd_Md_come_155 : decode gb_Md_come 155 = .ok (.iconst 1, 1) := by decide +kernel
theorem gd_Md_come_156 : decode gb_Md_come 156 = .ok (.iadd, 1) := by decide +kernel
theorem gd_Md_come_157 : decode gb_Md_come 157 = .ok (.invokevirtual 78, 3) := by decide +kernel
theorem gd_Md_come_160 : decode gb_Md_come 160 = .ok (.iload_n 3, 1) := by decide +kernel
theorem gd_Md_come_161 : decode gb_Md_come 161 = .ok (.if_icmp .gt 9, 3) := by decide +kernel
theorem gd_Md_come_164 : decode gb_Md_come 164 = .ok (.iinc 4 1, 3) := by decide +kernel
theorem gd_Md_come_167 : decode gb_Md_come 167 = .ok (.goto (-26), 3) := by decide +kernel
theorem gd_Md_come_170 : decode gb_Md_come 170 = .ok (.aload_n 0, 1) := by decide +kernel
theorem gd_Md_come_171 : decode gb_Md_come 171 = .ok (.getfield 32, 3) := by decide +kernel
theorem gd_Md_come_174 : decode gb_Md_come 174 = .ok (.iload 4, 2) := by decide +kernel
theorem gd_Md_come_176 : decode gb_Md_come 176 = .ok (.dup2, 1) := by decide +kernel
theorem gd_Md_come_177 : decode gb_Md_come 177 = .ok (.iaload, 1) := by decide +kernel
theorem gd_Md_come_178 : decode gb_Md_come 178 = .ok (.iconst 1, 1) := by decide +kernel
theorem gd_Md_come_179 : decode gb_Md_come 179 = .ok (.iadd, 1) := by decide +kernel
theorem gd_Md_come_180 : decode gb_Md_come 180 = .ok (.iastore, 1) := by decide +kernel
theorem gd_Md_come_181 : decode gb_Md_come 181 = .ok (.aload_n 0, 1) := by decide +kernel
theorem gd_Md_come_182 : decode gb_Md_come 182 = .ok (.getfield 32, 3) := by decide +kernel
theorem gd_Md_come_185 : decode gb_Md_come 185 = .ok (.iload 4, 2) := by decide +kernel
theorem gd_Md_come_187 : decode gb_Md_come 187 = .ok (.iaload, 1) := by decide +kernel
theorem gd_Md_come_188 : decode gb_Md_come 188 = .ok (.bipush 8, 2) := by decide +kernel
theorem gd_Md_come_190 : decode gb_Md_come 190 = .ok (.if_icmp .le 20, 3) := by decide +kernel
theorem gd_Md_come_193 : decode gb_Md_come 193 = .ok (.aload_n 0, 1) := by decide +kernel
theorem gd_Md_come_194 : decode gb_Md_come 194 = .ok (.getfield 32, 3) := by decide +kernel
theorem gd_Md_come_197 : decode gb_Md_come 197 = .ok (.iload 4, 2) := by decide +kernel
theorem gd_Md_come_199 : decode gb_Md_come 199 = .ok (.iconst 4, 1) := by decide +kernel
theorem gd_Md_come_200 : decode gb_Md_come 200 = .ok (.iastore, 1) := by decide +kernel
theorem gd_Md_come_201 : decode gb_Md_come 201 = .ok (.aload_n 0, 1) := by decide +kernel
theorem gd_Md_come_202 : decode gb_Md_come 202 = .ok (.iload 4, 2) := by decide +kernel
theorem gd_Md_come_204 : decode gb_Md_come 204 = .ok (.iconst 1, 1) := by decide +kernel
theorem gd_Md_come_205 : decode gb_Md_come 205 = .ok (.iadd, 1) := by decide +kernel
theorem gd_Md_come_206 : decode gb_Md_come 206 = .ok (.iconst 5, 1) := by decide +kernel
theorem gd_Md_come_207 : decode gb_Md_come 207 = .ok (.invokevirtual 75, 3) := by decide +kernel
theorem gd_Md_come_210 : decode gb_Md_come 210 = .ok (.return_, 1) := by decide +kernel
theorem gd_Md_go_0 : decode gb_Md_go 0 = .ok (.aload_n 0, 1) := by decide +kernel
theorem gd_Md_go_1 : decode gb_Md_go 1 = .ok (.iload_n 1, 1) := by decide +kernel
theorem gd_Md_go_2 : decode gb_Md_go 2 = .ok (.invokevirtual 81, 3) := by decide +kernel
theorem gd_Md_go_5 : decode gb_Md_go 5 = .ok (.istore_n 2, 1) := by decide +kernel
theorem gd_Md_go_6 : decode gb_Md_go 6 = .ok (.iconst 0, 1) := by decide +kernel
theorem gd_Md_go_7 : decode gb_Md_go 7 = .ok (.istore_n 3, 1) := by decide +kernel
theorem gd_Md_go_8 : decode gb_Md_go 8 = .ok (.aload_n 0, 1) := by decide +kernel
theorem gd_Md_go_9 : decode gb_Md_go 9 = .ok (.iload_n 3, 1) := by decide +kernel
theorem gd_Md_go_10 : decode gb_Md_go 10 = .ok (.iconst 1, 1) := by decide +kernel
theorem gd_Md_go_11 : decode gb_Md_go 11 = .ok (.iadd, 1) := by decide +kernel
theorem gd_Md_go_12 : decode gb_Md_go 12 = .ok (.invokevirtual 78, 3) := by decide +kernel
theorem gd_Md_go_15 : decode gb_Md_go 15 = .ok (.iload_n 2, 1) := by decide +kernel
theorem gd_Md_go_16 : decode gb_Md_go 16 = .ok (.if_icmp .gt 9, 3) := by decide +kernel
theorem gd_Md_go_19 : decode gb_Md_go 19 = .ok (.iinc 3 1, 3) := by decide +kernel
theorem gd_Md_go_22 : decode gb_Md_go 22 = .ok (.goto (-14), 3) := by decide +kernel
theorem gd_Md_go_25 : decode gb_Md_go 25 = .ok (.aload_n 0, 1) := by decide +kernel
theorem gd_Md_go_26 : decode gb_Md_go 26 = .ok (.getfield 13, 3) := by decide +kernel
theorem gd_Md_go_29 : decode gb_Md_go 29 = .ok (.iload_n 1, 1) := by decide +kernel
theorem gd_Md_go_30 : decode gb_Md_go 30 = .ok (.iconst 0, 1) := by decide +kernel
theorem gd_Md_go_31 : decode gb_Md_go 31 = .ok (.bastore, 1) := by decide +kernel
theorem gd_Md_go_32 : decode gb_Md_go 32 = .ok (.aload_n 0, 1) := by decide +kernel
theorem gd_Md_go_33 : decode gb_Md_go 33 = .ok (.dup, 1) := by decide +kernel
theorem gd_Md_go_34 : decode gb_Md_go 34 = .ok (.getfield 44, 3) := by decide +kernel
theorem gd_Md_go_37 : decode gb_Md_go 37 = .ok (.iconst 1, 1) := by decide +kernel
theorem gd_Md_go_38 : decode gb_Md_go 38 = .ok (.isub, 1) := by decide +kernel
theorem gd_Md_go_39 : decode gb_Md_go 39 = .ok (.putfield 44, 3) := by decide +kernel
theorem gd_Md_go_42 : decode gb_Md_go 42 = .ok (.iload_n 2, 1) := by decide +kernel
theorem gd_Md_go_43 : decode gb_Md_go 43 = .ok (.istore 4, 2) := by decide +kernel
theorem gd_Md_go_45 : decode gb_Md_go 45 = .ok (.iload 4, 2) := by decide +kernel
theorem gd_Md_go_47 : decode gb_Md_go 47 = .ok (.aload_n 0, 1) := by decide +kernel
theorem gd_Md_go_48 : decode gb_Md_go 48 = .ok (.getfield 44, 3) := by decide +kernel
theorem gd_Md_go_51 : decode gb_Md_go 51 = .ok (.if_icmp .ge 25, 3) := by decide +kernel
theorem gd_Md_go_54 : decode gb_Md_go 54 = .ok (.aload_n 0, 1) := by decide +kernel
theorem gd_Md_go_55 : decode gb_Md_go 55 = .ok (.getfield 29, 3) := by decide +kernel
theorem gd_Md_go_58 : decode gb_Md_go 58 = .ok (.iload 4, 2) := by decide +kernel
theorem gd_Md_go_60 : decode gb_Md_go 60 = .ok (.aload_n 0, 1) := by decide +kernel
theorem gd_Md_go_61 : decode gb_Md_go 61 = .ok (.getfield 29, 3) := by decide +kernel
theorem gd_Md_go_64 : decode gb_Md_go 64 = .ok (.iload 4, 2) := by decide +kernel
theorem gd_Md_go_66 : decode gb_Md_go 66 = .ok (.iconst 1, 1) := by decide +kernel
theorem gd_Md_go_67 : decode gb_Md_go 67 = .ok (.iadd, 1) := by decide +kernel
theorem gd_Md_go_68 : decode gb_Md_go 68 = .ok (.iaload, 1) := by decide +kernel
theorem gd_Md_go_69 : decode gb_Md_go 69 = .ok (.iastore, 1) := by decide +kernel
theorem gd_Md_go_70 : decode gb_Md_go 70 = .ok (.iinc 4 1, 3) := by decide +kernel
theorem gd_Md_go_73 : decode gb_Md_go 73 = .ok (.goto (-28), 3) := by decide +kernel
theorem gd_Md_go_76 : decode gb_Md_go 76 = .ok (.aload_n 0, 1) := by decide +kernel
theorem gd_Md_go_77 : decode gb_Md_go 77 = .ok (.getfield 32, 3) := by decide +kernel
theorem gd_Md_go_80 : decode gb_Md_go 80 = .ok (.iload_n 3, 1) := by decide +kernel
theorem gd_Md_go_81 : decode gb_Md_go 81 = .ok (.dup2, 1) := by decide +kernel
theorem gd_Md_go_82 : decode gb_Md_go 82 = .ok (.iaload, 1) := by decide +kernel
theorem gd_Md_go_83 : decode gb_Md_go 83 = .ok (.iconst 1, 1) := by decide +kernel
theorem gd_Md_go_84 : decode gb_Md_go 84 = .ok (.isub, 1) := by decide +kernel
theorem gd_Md_go_85 : decode gb_Md_go 85 = .ok (.iastore, 1) := by decide +kernel
theorem gd_Md_go_86 : decode gb_Md_go 86 = .ok (.aload_n 0, 1) := by decide +kernel
theorem gd_Md_go_87 : decode gb_Md_go 87 = .ok (.getfield 32, 3) := by decide +kernel
theorem gd_Md_go_90 : decode gb_Md_go 90 = .ok (.iload_n 3, 1) := by decide +kernel
theorem gd_Md_go_91 : decode gb_Md_go 91 = .ok (.iaload, 1) := by decide +kernel
theorem gd_Md_go_92 : decode gb_Md_go 92 = .ok (.iconst 3, 1) := by decide +kernel
theorem gd_Md_go_93 : decode gb_Md_go 93 = .ok (.if_icmp .ge 99, 3) := by decide +kernel
theorem gd_Md_go_96 : decode gb_Md_go 96 = .ok (.aload_n 0, 1) := by decide +kernel
theorem gd_Md_go_97 : decode gb_Md_go 97 = .ok (.getfield 61, 3) := by decide +kernel
theorem gd_Md_go_100 : decode gb_Md_go 100 = .ok (.iconst 1, 1) := by decide +kernel
theorem gd_Md_go_101 : decode gb_Md_go 101 = .ok (.if_icmp .le 91, 3) := by decide +kernel
theorem gd_Md_go_104 : decode gb_Md_go 104 = .ok (.iload_n 3, 1) := by decide +kernel
theorem gd_Md_go_105 : decode gb_Md_go 105 = .ok (.iconst 1, 1) := by decide +kernel
theorem gd_Md_go_106 : decode gb_Md_go 106 = .ok (.iadd, 1) := by decide +kernel
theorem gd_Md_go_107 : decode gb_Md_go 107 = .ok (.aload_n 0, 1) := by decide +kernel
theorem gd_Md_go_108 : decode gb_Md_go 108 = .ok (.getfield 61, 3) := by decide +kernel
theorem gd_Md_go_111 : decode gb_Md_go 111 = .ok (.if_icmp .ge 9, 3) := by decide +kernel
theorem gd_Md_go_114 : decode gb_Md_go 114 = .ok (.iload_n 3, 1) := by decide +kernel
theorem gd_Md_go_115 : decode gb_Md_go 115 = .ok (.iconst 1, 1) := by decide +kernel
theorem gd_Md_go_116 : decode gb_Md_go 116 = .ok (.iadd, 1) := by decide +kernel
theorem gd_Md_go_117 : decode gb_Md_go 117 = .ok (.goto 6, 3) := by decide +kernel
theorem gd_Md_go_120 : decode gb_Md_go 120 = .ok (.iload_n 3, 1) := by decide +kernel
theorem gd_Md_go_121 : decode gb_Md_go 121 = .ok (.iconst 1, 1) := by decide +kernel
theorem gd_Md_go_122 : decode gb_Md_go 122 = .ok (.isub, 1) := by decide +kernel
theorem gd_Md_go_123 : decode gb_Md_go 123 = .ok (.istore 4, 2) := by decide +kernel
theorem gd_Md_go_125 : decode gb_Md_go 125 = .ok (.aload_n 0, 1) := by decide +kernel
theorem gd_Md_go_126 : decode gb_Md_go 126 = .ok (.getfield 32, 3) := by decide +kernel
theorem gd_Md_go_129 : decode gb_Md_go 129 = .ok (.iload_n 3, 1) := by decide +kernel
theorem gd_Md_go_130 : decode gb_Md_go 130 = .ok (.iaload, 1) := by decide +kernel
theorem gd_Md_go_131 : decode gb_Md_go 131 = .ok (.aload_n 0, 1) := by decide +kernel
theorem gd_Md_go_132 : decode gb_Md_go 132 = .ok (.getfield 32, 3) := by decide +kernel
theorem gd_Md_go_135 : decode gb_Md_go 135 = .ok (.iload 4, 2) := by decide +kernel
theorem gd_Md_go_137 : decode gb_Md_go 137 = .ok (.iaload, 1) := by decide +kernel
theorem gd_Md_go_138 : decode gb_Md_go 138 = .ok (.iadd, 1) := by decide +kernel
theorem gd_Md_go_139 : decode gb_Md_go 139 = .ok (.bipush 8, 2) := by decide +kernel
theorem gd_Md_go_141 : decode gb_Md_go 141 = .ok (.if_icmp .gt 27, 3) := by decide +kernel
theorem gd_Md_go_144 : decode gb_Md_go 144 = .ok (.aload_n 0, 1) := by decide +kernel
theorem gd_Md_go_145 : decode gb_Md_go 145 = .ok (.getfield 32, 3) := by decide +kernel
theorem gd_Md_go_148 : decode gb_Md_go 148 = .ok (.iload 4, 2) := by decide +kernel
theorem gd_Md_go_150 : decode gb_Md_go 150 = .ok (.dup2, 1) := by decide +kernel
theorem gd_Md_go_151 : decode gb_Md_go 151 = .ok (.iaload, 1) := by decide +kernel
theorem gd_Md_go_152 : decode gb_Md_go 152 = .ok (.aload_n 0, 1) := by decide +kernel
theorem gd_Md_go_153 : decode gb_Md_go 153 = .ok (.getfield 32, 3) := by decide +kernel
theorem gd_Md_go_156 : decode gb_Md_go 156 = .ok (.iload_n 3, 1) := by decide +kernel
theorem gd_Md_go_157 : decode gb_Md_go 157 = .ok (.iaload, 1) := by decide +kernel
theorem gd_Md_go_158 : decode gb_Md_go 158 = .ok (.iadd, 1) := by decide +kernel
theorem gd_Md_go_159 : decode gb_Md_go 159 = .ok (.iastore, 1) := by decide +kernel
theorem gd_Md_go_160 : decode gb_Md_go 160 = .ok (.aload_n 0, 1) := by decide +kernel
theorem gd_Md_go_161 : decode gb_Md_go 161 = .ok (.iload_n 3, 1) := by decide +kernel
theorem gd_Md_go_162 : decode gb_Md_go 162 = .ok (.invokevirtual 84, 3) := by decide +kernel
theorem gd_Md_go_165 : decode gb_Md_go 165 = .ok (.goto 24, 3) := by decide +kernel
theorem gd_Md_go_168 : decode gb_Md_go 168 = .ok (.aload_n 0, 1) := by decide +kernel
theorem gd_Md_go_169 : decode gb_Md_go 169 = .ok (.getfield 32, 3) := by decide +kernel
theorem gd_Md_go_172 : decode gb_Md_go 172 = .ok (.iload 4, 2) := by decide +kernel
theorem gd_Md_go_174 : decode gb_Md_go 174 = .ok (.dup2, 1) := by decide +kernel
theorem gd_Md_go_175 : decode gb_Md_go 175 = .ok (.iaload, 1) := by decide +kernel
theorem gd_Md_go_176 : decode gb_Md_go 176 = .ok (.iconst 1, 1) := by decide +kernel
theorem gd_Md_go_177 : decode gb_Md_go 177 = .ok (.isub, 1) := by decide +kernel
theorem gd_Md_go_178 : decode gb_Md_go 178 = .ok (.iastore, 1) := by decide +kernel
theorem gd_Md_go_179 : decode gb_Md_go 179 = .ok (.aload_n 0, 1) := by decide +kernel
theorem gd_Md_go_180 : decode gb_Md_go 180 = .ok (.getfield 32, 3) := by decide +kernel
theorem gd_Md_go_183 : decode gb_Md_go 183 = .ok (.iload_n 3, 1) := by decide +kernel
theorem gd_Md_go_184 : decode gb_Md_go 184 = .ok (.dup2, 1) := by decide +kernel
theorem gd_Md_go_185 : decode gb_Md_go 185 = .ok (.iaload, 1) := by decide +kernel
theorem gd_Md_go_186 : decode gb_Md_go 186 = .ok (.iconst 1, 1) := by decide +kernel
theorem gd_Md_go_187 : decode gb_Md_go 187 = .ok (.iadd, 1) := by decide +kernel
theorem gd_Md_go_188 : decode gb_Md_go 188 = .ok (.iastore, 1) := by decide +kernel
theorem gd_Md_go_189 : decode gb_Md_go 189 = .ok (.goto 17, 3) := by decide +kernel
theorem gd_Md_go_192 : decode gb_Md_go 192 = .ok (.aload_n 0, 1) := by decide +kernel
theorem gd_Md_go_193 : decode gb_Md_go 193 = .ok (.getfield 32, 3) := by decide +kernel
theorem gd_Md_go_196 : decode gb_Md_go 196 = .ok (.iload_n 3, 1) := by decide +kernel
theorem gd_Md_go_197 : decode gb_Md_go 197 = .ok (.iaload, 1) := by decide +kernel
theorem gd_Md_go_198 : decode gb_Md_go 198 = .ok (.ifCond .ne 8, 3) := by decide +kernel
theorem gd_Md_go_201 : decode gb_Md_go 201 = .ok (.aload_n 0, 1) := by decide +kernel
theorem gd_Md_go_202 : decode gb_Md_go 202 = .ok (.iload_n 3, 1) := by decide +kernel
theorem gd_Md_go_203 : decode gb_Md_go 203 = .ok (.invokevirtual 84, 3) := by decide +kernel
theorem gd_Md_go_206 : decode gb_Md_go 206 = .ok (.return_, 1) := by decide +kernel
theorem gd_Md_isKeptBy_0 : decode gb_Md_isKeptBy 0 = .ok (.aload_n 0, 1) := by decide +kernel
theorem gd_Md_isKeptBy_1 : decode gb_Md_isKeptBy 1 = .ok (.getfield 38, 3) := by decide +kernel
theorem gd_Md_isKeptBy_4 : decode gb_Md_isKeptBy 4 = .ok (.bipush 100, 2) := by decide +kernel
theorem gd_Md_isKeptBy_6 : decode gb_Md_isKeptBy 6 = .ok (.iload_n 1, 1) := by decide +kernel
theorem gd_Md_isKeptBy_7 : decode gb_Md_isKeptBy 7 = .ok (.imul, 1) := by decide +kernel
theorem gd_Md_isKeptBy_8 : decode gb_Md_isKeptBy 8 = .ok (.iload_n 2, 1) := by decide +kernel
theorem gd_Md_isKeptBy_9 : decode gb_Md_isKeptBy 9 = .ok (.iadd, 1) := by decide +kernel
theorem gd_Md_isKeptBy_10 : decode gb_Md_isKeptBy 10 = .ok (.baload, 1) := by decide +kernel
theorem gd_Md_isKeptBy_11 : decode gb_Md_isKeptBy 11 = .ok (.ireturn, 1) := by decide +kernel
theorem gd_Md_isLoose_0 : decode gb_Md_isLoose 0 = .ok (.aload_n 0, 1) := by decide +kernel
theorem gd_Md_isLoose_1 : decode gb_Md_isLoose 1 = .ok (.getfield 20, 3) := by decide +kernel
theorem gd_Md_isLoose_4 : decode gb_Md_isLoose 4 = .ok (.iload_n 1, 1) := by decide +kernel
theorem gd_Md_isLoose_5 : decode gb_Md_isLoose 5 = .ok (.iaload, 1) := by decide +kernel
theorem gd_Md_isLoose_6 : decode gb_Md_isLoose 6 = .ok (.ifCond .ne 7, 3) := by decide +kernel
theorem gd_Md_isLoose_9 : decode gb_Md_isLoose 9 = .ok (.iconst 1, 1) := by decide +kernel
theorem gd_Md_isLoose_10 : decode gb_Md_isLoose 10 = .ok (.goto 4, 3) := by decide +kernel
theorem gd_Md_isLoose_13 : decode gb_Md_isLoose 13 = .ok (.iconst 0, 1) := by decide +kernel
theorem gd_Md_isLoose_14 : decode gb_Md_isLoose 14 = .ok (.istore_n 2, 1) := by decide +kernel
theorem gd_Md_isLoose_15 : decode gb_Md_isLoose 15 = .ok (.iconst 0, 1) := by decide +kernel
theorem gd_Md_isLoose_16 : decode gb_Md_isLoose 16 = .ok (.istore_n 3, 1) := by decide +kernel
theorem gd_Md_isLoose_17 : decode gb_Md_isLoose 17 = .ok (.iload_n 3, 1) := by decide +kernel
theorem gd_Md_isLoose_18 : decode gb_Md_isLoose 18 = .ok (.aload_n 0, 1) := by decide +kernel
theorem gd_Md_isLoose_19 : decode gb_Md_isLoose 19 = .ok (.getfield 88, 3) := by decide +kernel
theorem gd_Md_isLoose_22 : decode gb_Md_isLoose 22 = .ok (.if_icmp .ge 28, 3) := by decide +kernel
theorem gd_Md_isLoose_25 : decode gb_Md_isLoose 25 = .ok (.iload_n 2, 1) := by decide +kernel
theorem gd_Md_isLoose_26 : decode gb_Md_isLoose 26 = .ok (.ifCond .eq 16, 3) := by decide +kernel
theorem gd_Md_isLoose_29 : decode gb_Md_isLoose 29 = .ok (.aload_n 0, 1) := by decide +kernel
theorem gd_Md_isLoose_30 : decode gb_Md_isLoose 30 = .ok (.iload_n 3, 1) := by decide +kernel
theorem gd_Md_isLoose_31 : decode gb_Md_isLoose 31 = .ok (.iload_n 1, 1) := by decide +kernel
theorem gd_Md_isLoose_32 : decode gb_Md_isLoose 32 = .ok (.invokevirtual 91, 3) := by decide +kernel
theorem gd_Md_isLoose_35 : decode gb_Md_isLoose 35 = .ok (.ifCond .ne 7, 3) := by decide +kernel
theorem gd_Md_isLoose_38 : decode gb_Md_isLoose 38 = .ok (.iconst 1, 1) := by decide +kernel
theorem gd_Md_isLoose_39 : decode gb_Md_isLoose 39 = .ok (.goto 4, 3) := by decide +kernel
theorem gd_Md_isLoose_42 : decode gb_Md_isLoose 42 = .ok (.iconst 0, 1) := by decide +kernel
theorem gd_Md_isLoose_43 : decode gb_Md_isLoose 43 = .ok (.istore_n 2, 1) := by decide +kernel
theorem gd_Md_isLoose_44 : decode gb_Md_isLoose 44 = .ok (.iinc 3 1, 3) := by decide +kernel
theorem gd_Md_isLoose_47 : decode gb_Md_isLoose 47 = .ok (.goto (-30), 3) := by decide +kernel
theorem gd_Md_isLoose_50 : decode gb_Md_isLoose 50 = .ok (.iload_n 2, 1) := by decide +kernel
theorem gd_Md_isLoose_51 : decode gb_Md_isLoose 51 = .ok (.ireturn, 1) := by decide +kernel
theorem gd_Md_isTerm_0 : decode gb_Md_isTerm 0 = .ok (.iload_n 1, 1) := by decide +kernel
theorem gd_Md_isTerm_1 : decode gb_Md_isTerm 1 = .ok (.iconst 0, 1) := by decide +kernel
theorem gd_Md_isTerm_2 : decode gb_Md_isTerm 2 = .ok (.bipush 99, 2) := by decide +kernel
theorem gd_Md_isTerm_4 : decode gb_Md_isTerm 4 = .ok (.invokestatic 48, 3) := by decide +kernel
theorem gd_Md_isTerm_7 : decode gb_Md_isTerm 7 = .ok (.ifCond .eq 16, 3) := by decide +kernel
theorem gd_Md_isTerm_10 : decode gb_Md_isTerm 10 = .ok (.aload_n 0, 1) := by decide +kernel
theorem gd_Md_isTerm_11 : decode gb_Md_isTerm 11 = .ok (.getfield 13, 3) := by decide +kernel
theorem gd_Md_isTerm_14 : decode gb_Md_isTerm 14 = .ok (.iload_n 1, 1) := by decide +kernel
theorem gd_Md_isTerm_15 : decode gb_Md_isTerm 15 = .ok (.baload, 1) := by decide +kernel
theorem gd_Md_isTerm_16 : decode gb_Md_isTerm 16 = .ok (.ifCond .eq 7, 3) := by decide +kernel
theorem gd_Md_isTerm_19 : decode gb_Md_isTerm 19 = .ok (.iconst 1, 1) := by decide +kernel
theorem gd_Md_isTerm_20 : decode gb_Md_isTerm 20 = .ok (.goto 4, 3) := by decide +kernel
theorem gd_Md_isTerm_23 : decode gb_Md_isTerm 23 = .ok (.iconst 0, 1) := by decide +kernel
theorem gd_Md_isTerm_24 : decode gb_Md_isTerm 24 = .ok (.ireturn, 1) := by decide +kernel
theorem gd_Md_drop_0 : decode gb_Md_drop 0 = .ok (.aload_n 0, 1) := by decide +kernel
theorem gd_Md_drop_1 : decode gb_Md_drop 1 = .ok (.iload_n 1, 1) := by decide +kernel
theorem gd_Md_drop_2 : decode gb_Md_drop 2 = .ok (.invokevirtual 95, 3) := by decide +kernel
theorem gd_Md_drop_5 : decode gb_Md_drop 5 = .ok (.ifCond .eq 12, 3) := by decide +kernel
theorem gd_Md_drop_8 : decode gb_Md_drop 8 = .ok (.aload_n 0, 1) := by decide +kernel
theorem gd_Md_drop_9 : decode gb_Md_drop 9 = .ok (.getfield 20, 3) := by decide +kernel
theorem gd_Md_drop_12 : decode gb_Md_drop 12 = .ok (.iload_n 1, 1) := by decide +kernel
theorem gd_Md_drop_13 : decode gb_Md_drop 13 = .ok (.iaload, 1) := by decide +kernel
theorem gd_Md_drop_14 : decode gb_Md_drop 14 = .ok (.ifCond .ne 5, 3) := by decide +kernel
theorem gd_Md_drop_17 : decode gb_Md_drop 17 = .ok (.iconst (-1), 1) := by decide +kernel
theorem gd_Md_drop_18 : decode gb_Md_drop 18 = .ok (.ireturn, 1) := by decide +kernel
theorem gd_Md_drop_19 : decode gb_Md_drop 19 = .ok (.aload_n 0, 1) := by decide +kernel
theorem gd_Md_drop_20 : decode gb_Md_drop 20 = .ok (.getfield 20, 3) := by decide +kernel
theorem gd_Md_drop_23 : decode gb_Md_drop 23 = .ok (.iload_n 1, 1) := by decide +kernel
theorem gd_Md_drop_24 : decode gb_Md_drop 24 = .ok (.dup2, 1) := by decide +kernel
theorem gd_Md_drop_25 : decode gb_Md_drop 25 = .ok (.iaload, 1) := by decide +kernel
theorem gd_Md_drop_26 : decode gb_Md_drop 26 = .ok (.iconst 1, 1) := by decide +kernel
theorem gd_Md_drop_27 : decode gb_Md_drop 27 = .ok (.isub, 1) := by decide +kernel
theorem gd_Md_drop_28 : decode gb_Md_drop 28 = .ok (.iastore, 1) := by decide +kernel
theorem gd_Md_drop_29 : decode gb_Md_drop 29 = .ok (.aload_n 0, 1) := by decide +kernel
theorem gd_Md_drop_30 : decode gb_Md_drop 30 = .ok (.getfield 20, 3) := by decide +kernel
theorem gd_Md_drop_33 : decode gb_Md_drop 33 = .ok (.iload_n 1, 1) := by decide +kernel
theorem gd_Md_drop_34 : decode gb_Md_drop 34 = .ok (.iaload, 1) := by decide +kernel
theorem gd_Md_drop_35 : decode gb_Md_drop 35 = .ok (.istore_n 2, 1) := by decide +kernel
theorem gd_Md_drop_36 : decode gb_Md_drop 36 = .ok (.aload_n 0, 1) := by decide +kernel
theorem gd_Md_drop_37 : decode gb_Md_drop 37 = .ok (.iload_n 1, 1) := by decide +kernel
theorem gd_Md_drop_38 : decode gb_Md_drop 38 = .ok (.invokevirtual 99, 3) := by decide +kernel
theorem gd_Md_drop_41 : decode gb_Md_drop 41 = .ok (.ifCond .eq 8, 3) := by decide +kernel
theorem gd_Md_drop_44 : decode gb_Md_drop 44 = .ok (.aload_n 0, 1) := by decide +kernel
theorem gd_Md_drop_45 : decode gb_Md_drop 45 = .ok (.iload_n 1, 1) := by decide +kernel
theorem gd_Md_drop_46 : decode gb_Md_drop 46 = .ok (.invokevirtual 102, 3) := by decide +kernel
theorem gd_Md_drop_49 : decode gb_Md_drop 49 = .ok (.iload_n 2, 1) := by decide +kernel
theorem gd_Md_drop_50 : decode gb_Md_drop 50 = .ok (.ireturn, 1) := by decide +kernel
theorem gd_Md_find_0 : decode gb_Md_find 0 = .ok (.iload_n 1, 1) := by decide +kernel
theorem gd_Md_find_1 : decode gb_Md_find 1 = .ok (.iconst 0, 1) := by decide +kernel
theorem gd_Md_find_2 : decode gb_Md_find 2 = .ok (.iconst 3, 1) := by decide +kernel
theorem gd_Md_find_3 : decode gb_Md_find 3 = .ok (.invokestatic 48, 3) := by decide +kernel
theorem gd_Md_find_6 : decode gb_Md_find 6 = .ok (.ifCond .ne 5, 3) := by decide +kernel
theorem gd_Md_find_9 : decode gb_Md_find 9 = .ok (.iconst (-1), 1) := by decide +kernel
theorem gd_Md_find_10 : decode gb_Md_find 10 = .ok (.ireturn, 1) := by decide +kernel
theorem gd_Md_find_11 : decode gb_Md_find 11 = .ok (.aload_n 0, 1) := by decide +kernel
theorem gd_Md_find_12 : decode gb_Md_find 12 = .ok (.iload_n 1, 1) := by decide +kernel
theorem gd_Md_find_13 : decode gb_Md_find 13 = .ok (.invokevirtual 64, 3) := by decide +kernel
theorem gd_Md_find_16 : decode gb_Md_find 16 = .ok (.istore_n 2, 1) := by decide +kernel
theorem gd_Md_find_17 : decode gb_Md_find 17 = .ok (.iload_n 2, 1) := by decide +kernel
theorem gd_Md_find_18 : decode gb_Md_find 18 = .ok (.ifCond .ge 8, 3) := by decide +kernel
theorem gd_Md_find_21 : decode gb_Md_find 21 = .ok (.bipush (-2), 2) := by decide +kernel
theorem gd_Md_find_23 : decode gb_Md_find 23 = .ok (.goto 4, 3) := by decide +kernel
theorem gd_Md_find_26 : decode gb_Md_find 26 = .ok (.iload_n 2, 1) := by decide +kernel
theorem gd_Md_find_27 : decode gb_Md_find 27 = .ok (.ireturn, 1) := by decide +kernel
theorem gd_Md_term_0 : decode gb_Md_term 0 = .ok (.aload_n 0, 1) := by decide +kernel
theorem gd_Md_term_1 : decode gb_Md_term 1 = .ok (.iload_n 1, 1) := by decide +kernel
theorem gd_Md_term_2 : decode gb_Md_term 2 = .ok (.invokevirtual 95, 3) := by decide +kernel
theorem gd_Md_term_5 : decode gb_Md_term 5 = .ok (.ifCond .eq 7, 3) := by decide +kernel
theorem gd_Md_term_8 : decode gb_Md_term 8 = .ok (.iload_n 2, 1) := by decide +kernel
theorem gd_Md_term_9 : decode gb_Md_term 9 = .ok (.ifCond .ge 5, 3) := by decide +kernel
theorem gd_Md_term_12 : decode gb_Md_term 12 = .ok (.iconst (-1), 1) := by decide +kernel
theorem gd_Md_term_13 : decode gb_Md_term 13 = .ok (.ireturn, 1) := by decide +kernel
theorem gd_Md_term_14 : decode gb_Md_term 14 = .ok (.iload_n 2, 1) := by decide +kernel
theorem gd_Md_term_15 : decode gb_Md_term 15 = .ok (.tableswitch 46 0 2 #[25, 32, 39], 25) := by decide +kernel
theorem gd_Md_term_40 : decode gb_Md_term 40 = .ok (.aload_n 0, 1) := by decide +kernel
theorem gd_Md_term_41 : decode gb_Md_term 41 = .ok (.getfield 17, 3) := by decide +kernel
theorem gd_Md_term_44 : decode gb_Md_term 44 = .ok (.iload_n 1, 1) := by decide +kernel
theorem gd_Md_term_45 : decode gb_Md_term 45 = .ok (.iaload, 1) := by decide +kernel
theorem gd_Md_term_46 : decode gb_Md_term 46 = .ok (.ireturn, 1) := by decide +kernel
theorem gd_Md_term_47 : decode gb_Md_term 47 = .ok (.aload_n 0, 1) := by decide +kernel
theorem gd_Md_term_48 : decode gb_Md_term 48 = .ok (.getfield 20, 3) := by decide +kernel
theorem gd_Md_term_51 : decode gb_Md_term 51 = .ok (.iload_n 1, 1) := by decide +kernel
theorem gd_Md_term_52 : decode gb_Md_term 52 = .ok (.iaload, 1) := by decide +kernel
theorem gd_Md_term_53 : decode gb_Md_term 53 = .ok (.ireturn, 1) := by decide +kernel
theorem gd_Md_term_54 : decode gb_Md_term 54 = .ok (.aload_n 0, 1) := by decide +kernel
theorem gd_Md_term_55 : decode gb_Md_term 55 = .ok (.getfield 23, 3) := by decide +kernel
theorem gd_Md_term_58 : decode gb_Md_term 58 = .ok (.iload_n 1, 1) := by decide +kernel
theorem gd_Md_term_59 : decode gb_Md_term 59 = .ok (.iaload, 1) := by decide +kernel
theorem gd_Md_term_60 : decode gb_Md_term 60 = .ok (.ireturn, 1) := by decide +kernel
theorem gd_Md_term_61 : decode gb_Md_term 61 = .ok (.iload_n 2, 1) := by decide +kernel
theorem gd_Md_term_62 : decode gb_Md_term 62 = .ok (.iconst 3, 1) := by decide +kernel
theorem gd_Md_term_63 : decode gb_Md_term 63 = .ok (.isub, 1) := by decide +kernel
theorem gd_Md_term_64 : decode gb_Md_term 64 = .ok (.aload_n 0, 1) := by decide +kernel
theorem gd_Md_term_65 : decode gb_Md_term 65 = .ok (.getfield 23, 3) := by decide +kernel
theorem gd_Md_term_68 : decode gb_Md_term 68 = .ok (.iload_n 1, 1) := by decide +kernel
theorem gd_Md_term_69 : decode gb_Md_term 69 = .ok (.iaload, 1) := by decide +kernel
theorem gd_Md_term_70 : decode gb_Md_term 70 = .ok (.if_icmp .ge 19, 3) := by decide +kernel
theorem gd_Md_term_73 : decode gb_Md_term 73 = .ok (.aload_n 0, 1) := by decide +kernel
theorem gd_Md_term_74 : decode gb_Md_term 74 = .ok (.getfield 26, 3) := by decide +kernel
theorem gd_Md_term_77 : decode gb_Md_term 77 = .ok (.bipush 16, 2) := by decide +kernel
theorem gd_Md_term_79 : decode gb_Md_term 79 = .ok (.iload_n 1, 1) := by decide +kernel
theorem gd_Md_term_80 : decode gb_Md_term 80 = .ok (.imul, 1) := by decide +kernel
theorem gd_Md_term_81 : decode gb_Md_term 81 = .ok (.iload_n 2, 1) := by decide +kernel
theorem gd_Md_term_82 : decode gb_Md_term 82 = .ok (.iadd, 1) := by decide +kernel
theorem gd_Md_term_83 : decode gb_Md_term 83 = .ok (.iconst 3, 1) := by decide +kernel
theorem gd_Md_term_84 : decode gb_Md_term 84 = .ok (.isub, 1) := by decide +kernel
theorem gd_Md_term_85 : decode gb_Md_term 85 = .ok (.iaload, 1) := by decide +kernel
theorem gd_Md_term_86 : decode gb_Md_term 86 = .ok (.goto 4, 3) := by decide +kernel
theorem gd_Md_term_89 : decode gb_Md_term 89 = .ok (.iconst (-1), 1) := by decide +kernel
theorem gd_Md_term_90 : decode gb_Md_term 90 = .ok (.ireturn, 1) := by decide +kernel
theorem gd_Md_at_0 : decode gb_Md_at 0 = .ok (.iload_n 1, 1) := by decide +kernel
theorem gd_Md_at_1 : decode gb_Md_at 1 = .ok (.iconst 0, 1) := by decide +kernel
theorem gd_Md_at_2 : decode gb_Md_at 2 = .ok (.aload_n 0, 1) := by decide +kernel
theorem gd_Md_at_3 : decode gb_Md_at 3 = .ok (.getfield 44, 3) := by decide +kernel
theorem gd_Md_at_6 : decode gb_Md_at 6 = .ok (.iconst 1, 1) := by decide +kernel
theorem gd_Md_at_7 : decode gb_Md_at 7 = .ok (.isub, 1) := by decide +kernel
theorem gd_Md_at_8 : decode gb_Md_at 8 = .ok (.invokestatic 48, 3) := by decide +kernel
theorem gd_Md_at_11 : decode gb_Md_at 11 = .ok (.ifCond .eq 12, 3) := by decide +kernel
theorem gd_Md_at_14 : decode gb_Md_at 14 = .ok (.aload_n 0, 1) := by decide +kernel
theorem gd_Md_at_15 : decode gb_Md_at 15 = .ok (.getfield 29, 3) := by decide +kernel
theorem gd_Md_at_18 : decode gb_Md_at 18 = .ok (.iload_n 1, 1) := by decide +kernel
theorem gd_Md_at_19 : decode gb_Md_at 19 = .ok (.iaload, 1) := by decide +kernel
theorem gd_Md_at_20 : decode gb_Md_at 20 = .ok (.goto 5, 3) := by decide +kernel
theorem gd_Md_at_23 : decode gb_Md_at 23 = .ok (.bipush (-2), 2) := by decide +kernel
theorem gd_Md_at_25 : decode gb_Md_at 25 = .ok (.ireturn, 1) := by decide +kernel
theorem gd_Md_place_0 : decode gb_Md_place 0 = .ok (.aload_n 0, 1) := by decide +kernel
theorem gd_Md_place_1 : decode gb_Md_place 1 = .ok (.iload_n 1, 1) := by decide +kernel
theorem gd_Md_place_2 : decode gb_Md_place 2 = .ok (.invokevirtual 95, 3) := by decide +kernel
theorem gd_Md_place_5 : decode gb_Md_place 5 = .ok (.ifCond .eq 11, 3) := by decide +kernel
theorem gd_Md_place_8 : decode gb_Md_place 8 = .ok (.aload_n 0, 1) := by decide +kernel
theorem gd_Md_place_9 : decode gb_Md_place 9 = .ok (.iload_n 1, 1) := by decide +kernel
theorem gd_Md_place_10 : decode gb_Md_place 10 = .ok (.invokevirtual 81, 3) := by decide +kernel
theorem gd_Md_place_13 : decode gb_Md_place 13 = .ok (.goto 4, 3) := by decide +kernel
theorem gd_Md_place_16 : decode gb_Md_place 16 = .ok (.iconst (-1), 1) := by decide +kernel
theorem gd_Md_place_17 : decode gb_Md_place 17 = .ok (.ireturn, 1) := by decide +kernel
theorem gd_Md_begins_0 : decode gb_Md_begins 0 = .ok (.iload_n 1, 1) := by decide +kernel
theorem gd_Md_begins_1 : decode gb_Md_begins 1 = .ok (.iconst 0, 1) := by decide +kernel
theorem gd_Md_begins_2 : decode gb_Md_begins 2 = .ok (.iconst 3, 1) := by decide +kernel
theorem gd_Md_begins_3 : decode gb_Md_begins 3 = .ok (.invokestatic 48, 3) := by decide +kernel
theorem gd_Md_begins_6 : decode gb_Md_begins 6 = .ok (.ifCond .ne 5, 3) := by decide +kernel
theorem gd_Md_begins_9 : decode gb_Md_begins 9 = .ok (.iconst (-1), 1) := by decide +kernel
theorem gd_Md_begins_10 : decode gb_Md_begins 10 = .ok (.ireturn, 1) := by decide +kernel
theorem gd_Md_begins_11 : decode gb_Md_begins 11 = .ok (.iconst 0, 1) := by decide +kernel
theorem gd_Md_begins_12 : decode gb_Md_begins 12 = .ok (.istore_n 2, 1) := by decide +kernel
theorem gd_Md_begins_13 : decode gb_Md_begins 13 = .ok (.iconst 0, 1) := by decide +kernel
theorem gd_Md_begins_14 : decode gb_Md_begins 14 = .ok (.istore_n 3, 1) := by decide +kernel
theorem gd_Md_begins_15 : decode gb_Md_begins 15 = .ok (.iload_n 3, 1) := by decide +kernel
theorem gd_Md_begins_16 : decode gb_Md_begins 16 = .ok (.aload_n 0, 1) := by decide +kernel
theorem gd_Md_begins_17 : decode gb_Md_begins 17 = .ok (.getfield 44, 3) := by decide +kernel
theorem gd_Md_begins_20 : decode gb_Md_begins 20 = .ok (.if_icmp .ge 115, 3) := by decide +kernel
theorem gd_Md_begins_23 : decode gb_Md_begins 23 = .ok (.aload_n 0, 1) := by decide +kernel
theorem gd_Md_begins_24 : decode gb_Md_begins 24 = .ok (.getfield 29, 3) := by decide +kernel
theorem gd_Md_begins_27 : decode gb_Md_begins 27 = .ok (.iload_n 3, 1) := by decide +kernel
theorem gd_Md_begins_28 : decode gb_Md_begins 28 = .ok (.iaload, 1) := by decide +kernel
theorem gd_Md_begins_29 : decode gb_Md_begins 29 = .ok (.istore 4, 2) := by decide +kernel
theorem gd_Md_begins_31 : decode gb_Md_begins 31 = .ok (.aload_n 0, 1) := by decide +kernel
theorem gd_Md_begins_32 : decode gb_Md_begins 32 = .ok (.getfield 17, 3) := by decide +kernel
theorem gd_Md_begins_35 : decode gb_Md_begins 35 = .ok (.iload 4, 2) := by decide +kernel
theorem gd_Md_begins_37 : decode gb_Md_begins 37 = .ok (.iaload, 1) := by decide +kernel
theorem gd_Md_begins_38 : decode gb_Md_begins 38 = .ok (.iload_n 1, 1) := by decide +kernel
theorem gd_Md_begins_39 : decode gb_Md_begins 39 = .ok (.if_icmp .ne 21, 3) := by decide +kernel
theorem gd_Md_begins_42 : decode gb_Md_begins 42 = .ok (.aload_n 0, 1) := by decide +kernel
theorem gd_Md_begins_43 : decode gb_Md_begins 43 = .ok (.getfield 23, 3) := by decide +kernel
theorem gd_Md_begins_46 : decode gb_Md_begins 46 = .ok (.iload 4, 2) := by decide +kernel
theorem gd_Md_begins_48 : decode gb_Md_begins 48 = .ok (.iaload, 1) := by decide +kernel
theorem gd_Md_begins_49 : decode gb_Md_begins 49 = .ok (.aload_n 0, 1) := by decide +kernel
theorem gd_Md_begins_50 : decode gb_Md_begins 50 = .ok (.getfield 54, 3) := by decide +kernel
theorem gd_Md_begins_53 : decode gb_Md_begins 53 = .ok (.if_icmp .lt 7, 3) := by decide +kernel
theorem gd_Md_begins_56 : decode gb_Md_begins 56 = .ok (.iconst 1, 1) := by decide +kernel
theorem gd_Md_begins_57 : decode gb_Md_begins 57 = .ok (.goto 4, 3) := by decide +kernel
theorem gd_Md_begins_60 : decode gb_Md_begins 60 = .ok (.iconst 0, 1) := by decide +kernel
theorem gd_Md_begins_61 : decode gb_Md_begins 61 = .ok (.istore 5, 2) := by decide +kernel
theorem gd_Md_begins_63 : decode gb_Md_begins 63 = .ok (.iconst 0, 1) := by decide +kernel
theorem gd_Md_begins_64 : decode gb_Md_begins 64 = .ok (.istore 6, 2) := by decide +kernel
theorem gd_Md_begins_66 : decode gb_Md_begins 66 = .ok (.iload 6, 2) := by decide +kernel
theorem gd_Md_begins_68 : decode gb_Md_begins 68 = .ok (.aload_n 0, 1) := by decide +kernel
theorem gd_Md_begins_69 : decode gb_Md_begins 69 = .ok (.getfield 54, 3) := by decide +kernel
theorem gd_Md_begins_72 : decode gb_Md_begins 72 = .ok (.if_icmp .ge 44, 3) := by decide +kernel
theorem gd_Md_begins_75 : decode gb_Md_begins 75 = .ok (.iload 5, 2) := by decide +kernel
theorem gd_Md_begins_77 : decode gb_Md_begins 77 = .ok (.ifCond .eq 39, 3) := by decide +kernel
theorem gd_Md_begins_80 : decode gb_Md_begins 80 = .ok (.aload_n 0, 1) := by decide +kernel
theorem gd_Md_begins_81 : decode gb_Md_begins 81 = .ok (.getfield 26, 3) := by decide +kernel
theorem gd_Md_begins_84 : decode gb_Md_begins 84 = .ok (.bipush 16, 2) := by decide +kernel
theorem gd_Md_begins_86 : decode gb_Md_begins 86 = .ok (.iload 4, 2) := by decide +kernel
theorem gd_Md_begins_88 : decode gb_Md_begins 88 = .ok (.imul, 1) := by decide +kernel
theorem gd_Md_begins_89 : decode gb_Md_begins 89 = .ok (.iload 6, 2) := by decide +kernel
theorem gd_Md_begins_91 : decode gb_Md_begins 91 = .ok (.iadd, 1) := by decide +kernel
theorem gd_Md_begins_92 : decode gb_Md_begins 92 = .ok (.iaload, 1) := by decide +kernel
theorem gd_Md_begins_93 : decode gb_Md_begins 93 = .ok (.aload_n 0, 1) := by decide +kernel
theorem gd_Md_begins_94 : decode gb_Md_begins 94 = .ok (.getfield 7, 3) := by decide +kernel
theorem gd_Md_begins_97 : decode gb_Md_begins 97 = .ok (.iload 6, 2) := by decide +kernel
theorem gd_Md_begins_99 : decode gb_Md_begins 99 = .ok (.iaload, 1) := by decide +kernel
theorem gd_Md_begins_100 : decode gb_Md_begins 100 = .ok (.if_icmp .ne 7, 3) := by decide +kernel
theorem gd_Md_begins_103 : decode gb_Md_begins 103 = .ok (.iconst 1, 1) := by decide +kernel
theorem gd_Md_begins_104 : decode gb_Md_begins 104 = .ok (.goto 4, 3) := by decide +kernel
theorem gd_Md_begins_107 : decode gb_Md_begins 107 = .ok (.iconst 0, 1) := by decide +kernel
theorem gd_Md_begins_108 : decode gb_Md_begins 108 = .ok (.istore 5, 2) := by decide +kernel
theorem gd_Md_begins_110 : decode gb_Md_begins 110 = .ok (.iinc 6 1, 3) := by decide +kernel
theorem gd_Md_begins_113 : decode gb_Md_begins 113 = .ok (.goto (-47), 3) := by decide +kernel
theorem gd_Md_begins_116 : decode gb_Md_begins 116 = .ok (.iload_n 2, 1) := by decide +kernel
theorem gd_Md_begins_117 : decode gb_Md_begins 117 = .ok (.iload 5, 2) := by decide +kernel
theorem gd_Md_begins_119 : decode gb_Md_begins 119 = .ok (.ifCond .eq 7, 3) := by decide +kernel
theorem gd_Md_begins_122 : decode gb_Md_begins 122 = .ok (.iconst 1, 1) := by decide +kernel
theorem gd_Md_begins_123 : decode gb_Md_begins 123 = .ok (.goto 4, 3) := by decide +kernel
theorem gd_Md_begins_126 : decode gb_Md_begins 126 = .ok (.iconst 0, 1) := by decide +kernel
theorem gd_Md_begins_127 : decode gb_Md_begins 127 = .ok (.iadd, 1) := by decide +kernel
theorem gd_Md_begins_128 : decode gb_Md_begins 128 = .ok (.istore_n 2, 1) := by decide +kernel
theorem gd_Md_begins_129 : decode gb_Md_begins 129 = .ok (.iinc 3 1, 3) := by decide +kernel
theorem gd_Md_begins_132 : decode gb_Md_begins 132 = .ok (.goto (-117), 3) := by decide +kernel
theorem gd_Md_begins_135 : decode gb_Md_begins 135 = .ok (.iload_n 2, 1) := by decide +kernel
