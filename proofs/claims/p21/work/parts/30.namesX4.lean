theorem dX4_init_0 : decode cX4_init 0 = .ok (.aload_n 0, 1) := by decide +kernel
theorem dX4_init_1 : decode cX4_init 1 = .ok (.invokespecial 1, 3) := by decide +kernel
theorem dX4_init_4 : decode cX4_init 4 = .ok (.aload_n 0, 1) := by decide +kernel
theorem dX4_init_5 : decode cX4_init 5 = .ok (.bipush 20, 2) := by decide +kernel
theorem dX4_init_7 : decode cX4_init 7 = .ok (.putfield 7, 3) := by decide +kernel
theorem dX4_init_10 : decode cX4_init 10 = .ok (.aload_n 0, 1) := by decide +kernel
theorem dX4_init_11 : decode cX4_init 11 = .ok (.bipush 24, 2) := by decide +kernel
theorem dX4_init_13 : decode cX4_init 13 = .ok (.newarray .int, 2) := by decide +kernel
theorem dX4_init_15 : decode cX4_init 15 = .ok (.putfield 13, 3) := by decide +kernel
theorem dX4_init_18 : decode cX4_init 18 = .ok (.aload_n 0, 1) := by decide +kernel
theorem dX4_init_19 : decode cX4_init 19 = .ok (.iconst 0, 1) := by decide +kernel
theorem dX4_init_20 : decode cX4_init 20 = .ok (.anewarray 17, 3) := by decide +kernel
theorem dX4_init_23 : decode cX4_init 23 = .ok (.putfield 18, 3) := by decide +kernel
theorem dX4_init_26 : decode cX4_init 26 = .ok (.aload_n 0, 1) := by decide +kernel
theorem dX4_init_27 : decode cX4_init 27 = .ok (.iconst 0, 1) := by decide +kernel
theorem dX4_init_28 : decode cX4_init 28 = .ok (.anewarray 17, 3) := by decide +kernel
theorem dX4_init_31 : decode cX4_init 31 = .ok (.putfield 22, 3) := by decide +kernel
theorem dX4_init_34 : decode cX4_init 34 = .ok (.return_, 1) := by decide +kernel
theorem dX4_more_0 : decode cX4_more 0 = .ok (.aload_n 0, 1) := by decide +kernel
theorem dX4_more_1 : decode cX4_more 1 = .ok (.arraylength, 1) := by decide +kernel
theorem dX4_more_2 : decode cX4_more 2 = .ok (.iconst 1, 1) := by decide +kernel
theorem dX4_more_3 : decode cX4_more 3 = .ok (.iadd, 1) := by decide +kernel
theorem dX4_more_4 : decode cX4_more 4 = .ok (.anewarray 17, 3) := by decide +kernel
theorem dX4_more_7 : decode cX4_more 7 = .ok (.astore_n 2, 1) := by decide +kernel
theorem dX4_more_8 : decode cX4_more 8 = .ok (.iconst 0, 1) := by decide +kernel
theorem dX4_more_9 : decode cX4_more 9 = .ok (.istore_n 3, 1) := by decide +kernel
theorem dX4_more_10 : decode cX4_more 10 = .ok (.iload_n 3, 1) := by decide +kernel
theorem dX4_more_11 : decode cX4_more 11 = .ok (.aload_n 0, 1) := by decide +kernel
theorem dX4_more_12 : decode cX4_more 12 = .ok (.arraylength, 1) := by decide +kernel
theorem dX4_more_13 : decode cX4_more 13 = .ok (.if_icmp .ge 15, 3) := by decide +kernel
theorem dX4_more_16 : decode cX4_more 16 = .ok (.aload_n 2, 1) := by decide +kernel
theorem dX4_more_17 : decode cX4_more 17 = .ok (.iload_n 3, 1) := by decide +kernel
theorem dX4_more_18 : decode cX4_more 18 = .ok (.aload_n 0, 1) := by decide +kernel
theorem dX4_more_19 : decode cX4_more 19 = .ok (.iload_n 3, 1) := by decide +kernel
theorem dX4_more_20 : decode cX4_more 20 = .ok (.aaload, 1) := by decide +kernel
theorem dX4_more_21 : decode cX4_more 21 = .ok (.aastore, 1) := by decide +kernel
theorem dX4_more_22 : decode cX4_more 22 = .ok (.iinc 3 1, 3) := by decide +kernel
theorem dX4_more_25 : decode cX4_more 25 = .ok (.goto (-15), 3) := by decide +kernel
theorem dX4_more_28 : decode cX4_more 28 = .ok (.aload_n 2, 1) := by decide +kernel
theorem dX4_more_29 : decode cX4_more 29 = .ok (.aload_n 0, 1) := by decide +kernel
theorem dX4_more_30 : decode cX4_more 30 = .ok (.arraylength, 1) := by decide +kernel
theorem dX4_more_31 : decode cX4_more 31 = .ok (.aload_n 1, 1) := by decide +kernel
theorem dX4_more_32 : decode cX4_more 32 = .ok (.aastore, 1) := by decide +kernel
theorem dX4_more_33 : decode cX4_more 33 = .ok (.aload_n 2, 1) := by decide +kernel
theorem dX4_more_34 : decode cX4_more 34 = .ok (.areturn, 1) := by decide +kernel
theorem dX4_owner_0 : decode cX4_owner 0 = .ok (.iconst 0, 1) := by decide +kernel
theorem dX4_owner_1 : decode cX4_owner 1 = .ok (.istore_n 2, 1) := by decide +kernel
theorem dX4_owner_2 : decode cX4_owner 2 = .ok (.iload_n 2, 1) := by decide +kernel
theorem dX4_owner_3 : decode cX4_owner 3 = .ok (.aload_n 0, 1) := by decide +kernel
theorem dX4_owner_4 : decode cX4_owner 4 = .ok (.getfield 22, 3) := by decide +kernel
theorem dX4_owner_7 : decode cX4_owner 7 = .ok (.arraylength, 1) := by decide +kernel
theorem dX4_owner_8 : decode cX4_owner 8 = .ok (.if_icmp .ge 23, 3) := by decide +kernel
theorem dX4_owner_11 : decode cX4_owner 11 = .ok (.aload_n 0, 1) := by decide +kernel
theorem dX4_owner_12 : decode cX4_owner 12 = .ok (.getfield 22, 3) := by decide +kernel
theorem dX4_owner_15 : decode cX4_owner 15 = .ok (.iload_n 2, 1) := by decide +kernel
theorem dX4_owner_16 : decode cX4_owner 16 = .ok (.aaload, 1) := by decide +kernel
theorem dX4_owner_17 : decode cX4_owner 17 = .ok (.iconst 1, 1) := by decide +kernel
theorem dX4_owner_18 : decode cX4_owner 18 = .ok (.iaload, 1) := by decide +kernel
theorem dX4_owner_19 : decode cX4_owner 19 = .ok (.iload_n 1, 1) := by decide +kernel
theorem dX4_owner_20 : decode cX4_owner 20 = .ok (.if_icmp .ne 5, 3) := by decide +kernel
theorem dX4_owner_23 : decode cX4_owner 23 = .ok (.iload_n 2, 1) := by decide +kernel
theorem dX4_owner_24 : decode cX4_owner 24 = .ok (.ireturn, 1) := by decide +kernel
theorem dX4_owner_25 : decode cX4_owner 25 = .ok (.iinc 2 1, 3) := by decide +kernel
theorem dX4_owner_28 : decode cX4_owner 28 = .ok (.goto (-26), 3) := by decide +kernel
theorem dX4_owner_31 : decode cX4_owner 31 = .ok (.iconst (-1), 1) := by decide +kernel
theorem dX4_owner_32 : decode cX4_owner 32 = .ok (.ireturn, 1) := by decide +kernel
theorem dX4_pass_0 : decode cX4_pass 0 = .ok (.aload_n 0, 1) := by decide +kernel
theorem dX4_pass_1 : decode cX4_pass 1 = .ok (.getfield 30, 3) := by decide +kernel
theorem dX4_pass_4 : decode cX4_pass 4 = .ok (.bipush 24, 2) := by decide +kernel
theorem dX4_pass_6 : decode cX4_pass 6 = .ok (.irem, 1) := by decide +kernel
theorem dX4_pass_7 : decode cX4_pass 7 = .ok (.istore_n 1, 1) := by decide +kernel
theorem dX4_pass_8 : decode cX4_pass 8 = .ok (.aconst_null, 1) := by decide +kernel
theorem dX4_pass_9 : decode cX4_pass 9 = .ok (.astore_n 2, 1) := by decide +kernel
theorem dX4_pass_10 : decode cX4_pass 10 = .ok (.aload_n 0, 1) := by decide +kernel
theorem dX4_pass_11 : decode cX4_pass 11 = .ok (.getfield 18, 3) := by decide +kernel
theorem dX4_pass_14 : decode cX4_pass 14 = .ok (.arraylength, 1) := by decide +kernel
theorem dX4_pass_15 : decode cX4_pass 15 = .ok (.iconst 1, 1) := by decide +kernel
theorem dX4_pass_16 : decode cX4_pass 16 = .ok (.isub, 1) := by decide +kernel
theorem dX4_pass_17 : decode cX4_pass 17 = .ok (.istore_n 3, 1) := by decide +kernel
theorem dX4_pass_18 : decode cX4_pass 18 = .ok (.iload_n 3, 1) := by decide +kernel
theorem dX4_pass_19 : decode cX4_pass 19 = .ok (.ifCond .lt 34, 3) := by decide +kernel
theorem dX4_pass_22 : decode cX4_pass 22 = .ok (.aload_n 2, 1) := by decide +kernel
theorem dX4_pass_23 : decode cX4_pass 23 = .ok (.ifnull 17, 3) := by decide +kernel
theorem dX4_pass_26 : decode cX4_pass 26 = .ok (.aload_n 0, 1) := by decide +kernel
theorem dX4_pass_27 : decode cX4_pass 27 = .ok (.getfield 18, 3) := by decide +kernel
theorem dX4_pass_30 : decode cX4_pass 30 = .ok (.iload_n 3, 1) := by decide +kernel
theorem dX4_pass_31 : decode cX4_pass 31 = .ok (.aaload, 1) := by decide +kernel
theorem dX4_pass_32 : decode cX4_pass 32 = .ok (.iconst 0, 1) := by decide +kernel
theorem dX4_pass_33 : decode cX4_pass 33 = .ok (.iaload, 1) := by decide +kernel
theorem dX4_pass_34 : decode cX4_pass 34 = .ok (.aload_n 2, 1) := by decide +kernel
theorem dX4_pass_35 : decode cX4_pass 35 = .ok (.iconst 0, 1) := by decide +kernel
theorem dX4_pass_36 : decode cX4_pass 36 = .ok (.iaload, 1) := by decide +kernel
theorem dX4_pass_37 : decode cX4_pass 37 = .ok (.if_icmp .gt 10, 3) := by decide +kernel
theorem dX4_pass_40 : decode cX4_pass 40 = .ok (.aload_n 0, 1) := by decide +kernel
theorem dX4_pass_41 : decode cX4_pass 41 = .ok (.getfield 18, 3) := by decide +kernel
theorem dX4_pass_44 : decode cX4_pass 44 = .ok (.iload_n 3, 1) := by decide +kernel
theorem dX4_pass_45 : decode cX4_pass 45 = .ok (.aaload, 1) := by decide +kernel
theorem dX4_pass_46 : decode cX4_pass 46 = .ok (.astore_n 2, 1) := by decide +kernel
theorem dX4_pass_47 : decode cX4_pass 47 = .ok (.iinc 3 (-1), 3) := by decide +kernel
theorem dX4_pass_50 : decode cX4_pass 50 = .ok (.goto (-32), 3) := by decide +kernel
theorem dX4_pass_53 : decode cX4_pass 53 = .ok (.aload_n 2, 1) := by decide +kernel
theorem dX4_pass_54 : decode cX4_pass 54 = .ok (.ifnull 46, 3) := by decide +kernel
theorem dX4_pass_57 : decode cX4_pass 57 = .ok (.aload_n 2, 1) := by decide +kernel
theorem dX4_pass_58 : decode cX4_pass 58 = .ok (.iconst 0, 1) := by decide +kernel
theorem dX4_pass_59 : decode cX4_pass 59 = .ok (.dup2, 1) := by decide +kernel
theorem dX4_pass_60 : decode cX4_pass 60 = .ok (.iaload, 1) := by decide +kernel
theorem dX4_pass_61 : decode cX4_pass 61 = .ok (.aload_n 0, 1) := by decide +kernel
theorem dX4_pass_62 : decode cX4_pass 62 = .ok (.getfield 13, 3) := by decide +kernel
theorem dX4_pass_65 : decode cX4_pass 65 = .ok (.iload_n 1, 1) := by decide +kernel
theorem dX4_pass_66 : decode cX4_pass 66 = .ok (.iaload, 1) := by decide +kernel
theorem dX4_pass_67 : decode cX4_pass 67 = .ok (.iadd, 1) := by decide +kernel
theorem dX4_pass_68 : decode cX4_pass 68 = .ok (.iastore, 1) := by decide +kernel
theorem dX4_pass_69 : decode cX4_pass 69 = .ok (.aload_n 2, 1) := by decide +kernel
theorem dX4_pass_70 : decode cX4_pass 70 = .ok (.iconst 0, 1) := by decide +kernel
theorem dX4_pass_71 : decode cX4_pass 71 = .ok (.iaload, 1) := by decide +kernel
theorem dX4_pass_72 : decode cX4_pass 72 = .ok (.sipush 900, 3) := by decide +kernel
theorem dX4_pass_75 : decode cX4_pass 75 = .ok (.if_icmp .le 25, 3) := by decide +kernel
theorem dX4_pass_78 : decode cX4_pass 78 = .ok (.aload_n 0, 1) := by decide +kernel
theorem dX4_pass_79 : decode cX4_pass 79 = .ok (.dup, 1) := by decide +kernel
theorem dX4_pass_80 : decode cX4_pass 80 = .ok (.getfield 33, 3) := by decide +kernel
theorem dX4_pass_83 : decode cX4_pass 83 = .ok (.aload_n 2, 1) := by decide +kernel
theorem dX4_pass_84 : decode cX4_pass 84 = .ok (.iconst 0, 1) := by decide +kernel
theorem dX4_pass_85 : decode cX4_pass 85 = .ok (.iaload, 1) := by decide +kernel
theorem dX4_pass_86 : decode cX4_pass 86 = .ok (.sipush 900, 3) := by decide +kernel
theorem dX4_pass_89 : decode cX4_pass 89 = .ok (.isub, 1) := by decide +kernel
theorem dX4_pass_90 : decode cX4_pass 90 = .ok (.iadd, 1) := by decide +kernel
theorem dX4_pass_91 : decode cX4_pass 91 = .ok (.putfield 33, 3) := by decide +kernel
theorem dX4_pass_94 : decode cX4_pass 94 = .ok (.aload_n 2, 1) := by decide +kernel
theorem dX4_pass_95 : decode cX4_pass 95 = .ok (.iconst 0, 1) := by decide +kernel
theorem dX4_pass_96 : decode cX4_pass 96 = .ok (.sipush 900, 3) := by decide +kernel
theorem dX4_pass_99 : decode cX4_pass 99 = .ok (.iastore, 1) := by decide +kernel
theorem dX4_pass_100 : decode cX4_pass 100 = .ok (.aload_n 0, 1) := by decide +kernel
theorem dX4_pass_101 : decode cX4_pass 101 = .ok (.getfield 22, 3) := by decide +kernel
theorem dX4_pass_104 : decode cX4_pass 104 = .ok (.astore_n 3, 1) := by decide +kernel
theorem dX4_pass_105 : decode cX4_pass 105 = .ok (.aload_n 3, 1) := by decide +kernel
theorem dX4_pass_106 : decode cX4_pass 106 = .ok (.arraylength, 1) := by decide +kernel
theorem dX4_pass_107 : decode cX4_pass 107 = .ok (.istore 4, 2) := by decide +kernel
theorem dX4_pass_109 : decode cX4_pass 109 = .ok (.iconst 0, 1) := by decide +kernel
theorem dX4_pass_110 : decode cX4_pass 110 = .ok (.istore 5, 2) := by decide +kernel
theorem dX4_pass_112 : decode cX4_pass 112 = .ok (.iload 5, 2) := by decide +kernel
theorem dX4_pass_114 : decode cX4_pass 114 = .ok (.iload 4, 2) := by decide +kernel
theorem dX4_pass_116 : decode cX4_pass 116 = .ok (.if_icmp .ge 84, 3) := by decide +kernel
theorem dX4_pass_119 : decode cX4_pass 119 = .ok (.aload_n 3, 1) := by decide +kernel
theorem dX4_pass_120 : decode cX4_pass 120 = .ok (.iload 5, 2) := by decide +kernel
theorem dX4_pass_122 : decode cX4_pass 122 = .ok (.aaload, 1) := by decide +kernel
theorem dX4_pass_123 : decode cX4_pass 123 = .ok (.astore 6, 2) := by decide +kernel
theorem dX4_pass_125 : decode cX4_pass 125 = .ok (.iload_n 1, 1) := by decide +kernel
theorem dX4_pass_126 : decode cX4_pass 126 = .ok (.ifCond .gt 68, 3) := by decide +kernel
theorem dX4_pass_129 : decode cX4_pass 129 = .ok (.aload 6, 2) := by decide +kernel
theorem dX4_pass_131 : decode cX4_pass 131 = .ok (.bipush 7, 2) := by decide +kernel
theorem dX4_pass_133 : decode cX4_pass 133 = .ok (.iaload, 1) := by decide +kernel
theorem dX4_pass_134 : decode cX4_pass 134 = .ok (.iconst 1, 1) := by decide +kernel
theorem dX4_pass_135 : decode cX4_pass 135 = .ok (.if_icmp .ne 6, 3) := by decide +kernel
theorem dX4_pass_138 : decode cX4_pass 138 = .ok (.goto 56, 3) := by decide +kernel
theorem dX4_pass_141 : decode cX4_pass 141 = .ok (.aload_n 0, 1) := by decide +kernel
theorem dX4_pass_142 : decode cX4_pass 142 = .ok (.getfield 18, 3) := by decide +kernel
theorem dX4_pass_145 : decode cX4_pass 145 = .ok (.aload 6, 2) := by decide +kernel
theorem dX4_pass_147 : decode cX4_pass 147 = .ok (.iconst 0, 1) := by decide +kernel
theorem dX4_pass_148 : decode cX4_pass 148 = .ok (.iaload, 1) := by decide +kernel
theorem dX4_pass_149 : decode cX4_pass 149 = .ok (.aaload, 1) := by decide +kernel
theorem dX4_pass_150 : decode cX4_pass 150 = .ok (.astore 7, 2) := by decide +kernel
theorem dX4_pass_152 : decode cX4_pass 152 = .ok (.aload 7, 2) := by decide +kernel
theorem dX4_pass_154 : decode cX4_pass 154 = .ok (.iconst 0, 1) := by decide +kernel
theorem dX4_pass_155 : decode cX4_pass 155 = .ok (.iaload, 1) := by decide +kernel
theorem dX4_pass_156 : decode cX4_pass 156 = .ok (.aload 6, 2) := by decide +kernel
theorem dX4_pass_158 : decode cX4_pass 158 = .ok (.iconst 2, 1) := by decide +kernel
theorem dX4_pass_159 : decode cX4_pass 159 = .ok (.iaload, 1) := by decide +kernel
theorem dX4_pass_160 : decode cX4_pass 160 = .ok (.if_icmp .ge 10, 3) := by decide +kernel
theorem dX4_pass_163 : decode cX4_pass 163 = .ok (.aload 7, 2) := by decide +kernel
theorem dX4_pass_165 : decode cX4_pass 165 = .ok (.iconst 0, 1) := by decide +kernel
theorem dX4_pass_166 : decode cX4_pass 166 = .ok (.iaload, 1) := by decide +kernel
theorem dX4_pass_167 : decode cX4_pass 167 = .ok (.goto 7, 3) := by decide +kernel
theorem dX4_pass_170 : decode cX4_pass 170 = .ok (.aload 6, 2) := by decide +kernel
theorem dX4_pass_172 : decode cX4_pass 172 = .ok (.iconst 2, 1) := by decide +kernel
theorem dX4_pass_173 : decode cX4_pass 173 = .ok (.iaload, 1) := by decide +kernel
theorem dX4_pass_174 : decode cX4_pass 174 = .ok (.istore 8, 2) := by decide +kernel
theorem dX4_pass_176 : decode cX4_pass 176 = .ok (.aload 7, 2) := by decide +kernel
theorem dX4_pass_178 : decode cX4_pass 178 = .ok (.iconst 0, 1) := by decide +kernel
theorem dX4_pass_179 : decode cX4_pass 179 = .ok (.dup2, 1) := by decide +kernel
theorem dX4_pass_180 : decode cX4_pass 180 = .ok (.iaload, 1) := by decide +kernel
theorem dX4_pass_181 : decode cX4_pass 181 = .ok (.iload 8, 2) := by decide +kernel
theorem dX4_pass_183 : decode cX4_pass 183 = .ok (.isub, 1) := by decide +kernel
theorem dX4_pass_184 : decode cX4_pass 184 = .ok (.iastore, 1) := by decide +kernel
theorem dX4_pass_185 : decode cX4_pass 185 = .ok (.aload 6, 2) := by decide +kernel
theorem dX4_pass_187 : decode cX4_pass 187 = .ok (.iconst 3, 1) := by decide +kernel
theorem dX4_pass_188 : decode cX4_pass 188 = .ok (.dup2, 1) := by decide +kernel
theorem dX4_pass_189 : decode cX4_pass 189 = .ok (.iaload, 1) := by decide +kernel
theorem dX4_pass_190 : decode cX4_pass 190 = .ok (.iload 8, 2) := by decide +kernel
theorem dX4_pass_192 : decode cX4_pass 192 = .ok (.iadd, 1) := by decide +kernel
theorem dX4_pass_193 : decode cX4_pass 193 = .ok (.iastore, 1) := by decide +kernel
theorem dX4_pass_194 : decode cX4_pass 194 = .ok (.iinc 5 1, 3) := by decide +kernel
theorem dX4_pass_197 : decode cX4_pass 197 = .ok (.goto (-85), 3) := by decide +kernel
theorem dX4_pass_200 : decode cX4_pass 200 = .ok (.aload_n 0, 1) := by decide +kernel
theorem dX4_pass_201 : decode cX4_pass 201 = .ok (.getfield 18, 3) := by decide +kernel
theorem dX4_pass_204 : decode cX4_pass 204 = .ok (.astore_n 3, 1) := by decide +kernel
theorem dX4_pass_205 : decode cX4_pass 205 = .ok (.aload_n 3, 1) := by decide +kernel
theorem dX4_pass_206 : decode cX4_pass 206 = .ok (.arraylength, 1) := by decide +kernel
theorem dX4_pass_207 : decode cX4_pass 207 = .ok (.istore 4, 2) := by decide +kernel
theorem dX4_pass_209 : decode cX4_pass 209 = .ok (.iconst 0, 1) := by decide +kernel
theorem dX4_pass_210 : decode cX4_pass 210 = .ok (.istore 5, 2) := by decide +kernel
theorem dX4_pass_212 : decode cX4_pass 212 = .ok (.iload 5, 2) := by decide +kernel
theorem dX4_pass_214 : decode cX4_pass 214 = .ok (.iload 4, 2) := by decide +kernel
theorem dX4_pass_216 : decode cX4_pass 216 = .ok (.if_icmp .ge 122, 3) := by decide +kernel
theorem dX4_pass_219 : decode cX4_pass 219 = .ok (.aload_n 3, 1) := by decide +kernel
theorem dX4_pass_220 : decode cX4_pass 220 = .ok (.iload 5, 2) := by decide +kernel
theorem dX4_pass_222 : decode cX4_pass 222 = .ok (.aaload, 1) := by decide +kernel
theorem dX4_pass_223 : decode cX4_pass 223 = .ok (.astore 6, 2) := by decide +kernel
theorem dX4_pass_225 : decode cX4_pass 225 = .ok (.iload_n 1, 1) := by decide +kernel
theorem dX4_pass_226 : decode cX4_pass 226 = .ok (.ifCond .le 6, 3) := by decide +kernel
theorem dX4_pass_229 : decode cX4_pass 229 = .ok (.goto 103, 3) := by decide +kernel
theorem dX4_pass_232 : decode cX4_pass 232 = .ok (.aload 6, 2) := by decide +kernel
theorem dX4_pass_234 : decode cX4_pass 234 = .ok (.iconst 0, 1) := by decide +kernel
theorem dX4_pass_235 : decode cX4_pass 235 = .ok (.iaload, 1) := by decide +kernel
theorem dX4_pass_236 : decode cX4_pass 236 = .ok (.aload 6, 2) := by decide +kernel
theorem dX4_pass_238 : decode cX4_pass 238 = .ok (.iconst 1, 1) := by decide +kernel
theorem dX4_pass_239 : decode cX4_pass 239 = .ok (.iaload, 1) := by decide +kernel
theorem dX4_pass_240 : decode cX4_pass 240 = .ok (.if_icmp .ge 10, 3) := by decide +kernel
theorem dX4_pass_243 : decode cX4_pass 243 = .ok (.aload 6, 2) := by decide +kernel
theorem dX4_pass_245 : decode cX4_pass 245 = .ok (.iconst 0, 1) := by decide +kernel
theorem dX4_pass_246 : decode cX4_pass 246 = .ok (.iaload, 1) := by decide +kernel
theorem dX4_pass_247 : decode cX4_pass 247 = .ok (.goto 7, 3) := by decide +kernel
theorem dX4_pass_250 : decode cX4_pass 250 = .ok (.aload 6, 2) := by decide +kernel
theorem dX4_pass_252 : decode cX4_pass 252 = .ok (.iconst 1, 1) := by decide +kernel
theorem dX4_pass_253 : decode cX4_pass 253 = .ok (.iaload, 1) := by decide +kernel
theorem dX4_pass_254 : decode cX4_pass 254 = .ok (.istore 7, 2) := by decide +kernel
theorem dX4_pass_256 : decode cX4_pass 256 = .ok (.aload 6, 2) := by decide +kernel
theorem dX4_pass_258 : decode cX4_pass 258 = .ok (.iconst 0, 1) := by decide +kernel
theorem dX4_pass_259 : decode cX4_pass 259 = .ok (.dup2, 1) := by decide +kernel
theorem dX4_pass_260 : decode cX4_pass 260 = .ok (.iaload, 1) := by decide +kernel
theorem dX4_pass_261 : decode cX4_pass 261 = .ok (.iload 7, 2) := by decide +kernel
theorem dX4_pass_263 : decode cX4_pass 263 = .ok (.isub, 1) := by decide +kernel
theorem dX4_pass_264 : decode cX4_pass 264 = .ok (.iastore, 1) := by decide +kernel
theorem dX4_pass_265 : decode cX4_pass 265 = .ok (.aload 6, 2) := by decide +kernel
theorem dX4_pass_267 : decode cX4_pass 267 = .ok (.iconst 2, 1) := by decide +kernel
theorem dX4_pass_268 : decode cX4_pass 268 = .ok (.dup2, 1) := by decide +kernel
theorem dX4_pass_269 : decode cX4_pass 269 = .ok (.iaload, 1) := by decide +kernel
theorem dX4_pass_270 : decode cX4_pass 270 = .ok (.iload 7, 2) := by decide +kernel
theorem dX4_pass_272 : decode cX4_pass 272 = .ok (.iadd, 1) := by decide +kernel
theorem dX4_pass_273 : decode cX4_pass 273 = .ok (.iastore, 1) := by decide +kernel
theorem dX4_pass_274 : decode cX4_pass 274 = .ok (.aload 6, 2) := by decide +kernel
theorem dX4_pass_276 : decode cX4_pass 276 = .ok (.iconst 0, 1) := by decide +kernel
theorem dX4_pass_277 : decode cX4_pass 277 = .ok (.iaload, 1) := by decide +kernel
theorem dX4_pass_278 : decode cX4_pass 278 = .ok (.ifCond .ne 14, 3) := by decide +kernel
theorem dX4_pass_281 : decode cX4_pass 281 = .ok (.aload 6, 2) := by decide +kernel
theorem dX4_pass_283 : decode cX4_pass 283 = .ok (.iconst 1, 1) := by decide +kernel
theorem dX4_pass_284 : decode cX4_pass 284 = .ok (.dup2, 1) := by decide +kernel
theorem dX4_pass_285 : decode cX4_pass 285 = .ok (.iaload, 1) := by decide +kernel
theorem dX4_pass_286 : decode cX4_pass 286 = .ok (.iconst 2, 1) := by decide +kernel
theorem dX4_pass_287 : decode cX4_pass 287 = .ok (.idiv, 1) := by decide +kernel
theorem dX4_pass_288 : decode cX4_pass 288 = .ok (.iastore, 1) := by decide +kernel
theorem dX4_pass_289 : decode cX4_pass 289 = .ok (.goto 43, 3) := by decide +kernel
theorem dX4_pass_292 : decode cX4_pass 292 = .ok (.aload 6, 2) := by decide +kernel
theorem dX4_pass_294 : decode cX4_pass 294 = .ok (.iconst 1, 1) := by decide +kernel
theorem dX4_pass_295 : decode cX4_pass 295 = .ok (.aload 6, 2) := by decide +kernel
theorem dX4_pass_297 : decode cX4_pass 297 = .ok (.iconst 1, 1) := by decide +kernel
theorem dX4_pass_298 : decode cX4_pass 298 = .ok (.iaload, 1) := by decide +kernel
theorem dX4_pass_299 : decode cX4_pass 299 = .ok (.aload 6, 2) := by decide +kernel
theorem dX4_pass_301 : decode cX4_pass 301 = .ok (.iconst 1, 1) := by decide +kernel
theorem dX4_pass_302 : decode cX4_pass 302 = .ok (.iaload, 1) := by decide +kernel
theorem dX4_pass_303 : decode cX4_pass 303 = .ok (.iconst 4, 1) := by decide +kernel
theorem dX4_pass_304 : decode cX4_pass 304 = .ok (.idiv, 1) := by decide +kernel
theorem dX4_pass_305 : decode cX4_pass 305 = .ok (.iadd, 1) := by decide +kernel
theorem dX4_pass_306 : decode cX4_pass 306 = .ok (.iconst 1, 1) := by decide +kernel
theorem dX4_pass_307 : decode cX4_pass 307 = .ok (.iadd, 1) := by decide +kernel
theorem dX4_pass_308 : decode cX4_pass 308 = .ok (.bipush 50, 2) := by decide +kernel
theorem dX4_pass_310 : decode cX4_pass 310 = .ok (.if_icmp .le 8, 3) := by decide +kernel
theorem dX4_pass_313 : decode cX4_pass 313 = .ok (.bipush 50, 2) := by decide +kernel
theorem dX4_pass_315 : decode cX4_pass 315 = .ok (.goto 16, 3) := by decide +kernel
theorem dX4_pass_318 : decode cX4_pass 318 = .ok (.aload 6, 2) := by decide +kernel
theorem dX4_pass_320 : decode cX4_pass 320 = .ok (.iconst 1, 1) := by decide +kernel
theorem dX4_pass_321 : decode cX4_pass 321 = .ok (.iaload, 1) := by decide +kernel
theorem dX4_pass_322 : decode cX4_pass 322 = .ok (.aload 6, 2) := by decide +kernel
theorem dX4_pass_324 : decode cX4_pass 324 = .ok (.iconst 1, 1) := by decide +kernel
theorem dX4_pass_325 : decode cX4_pass 325 = .ok (.iaload, 1) := by decide +kernel
theorem dX4_pass_326 : decode cX4_pass 326 = .ok (.iconst 4, 1) := by decide +kernel
theorem dX4_pass_327 : decode cX4_pass 327 = .ok (.idiv, 1) := by decide +kernel
theorem dX4_pass_328 : decode cX4_pass 328 = .ok (.iadd, 1) := by decide +kernel
theorem dX4_pass_329 : decode cX4_pass 329 = .ok (.iconst 1, 1) := by decide +kernel
theorem dX4_pass_330 : decode cX4_pass 330 = .ok (.iadd, 1) := by decide +kernel
theorem dX4_pass_331 : decode cX4_pass 331 = .ok (.iastore, 1) := by decide +kernel
theorem dX4_pass_332 : decode cX4_pass 332 = .ok (.iinc 5 1, 3) := by decide +kernel
theorem dX4_pass_335 : decode cX4_pass 335 = .ok (.goto (-123), 3) := by decide +kernel
theorem dX4_pass_338 : decode cX4_pass 338 = .ok (.aload_n 0, 1) := by decide +kernel
theorem dX4_pass_339 : decode cX4_pass 339 = .ok (.getfield 22, 3) := by decide +kernel
theorem dX4_pass_342 : decode cX4_pass 342 = .ok (.astore_n 3, 1) := by decide +kernel
theorem dX4_pass_343 : decode cX4_pass 343 = .ok (.aload_n 3, 1) := by decide +kernel
theorem dX4_pass_344 : decode cX4_pass 344 = .ok (.arraylength, 1) := by decide +kernel
theorem dX4_pass_345 : decode cX4_pass 345 = .ok (.istore 4, 2) := by decide +kernel
theorem dX4_pass_347 : decode cX4_pass 347 = .ok (.iconst 0, 1) := by decide +kernel
theorem dX4_pass_348 : decode cX4_pass 348 = .ok (.istore 5, 2) := by decide +kernel
theorem dX4_pass_350 : decode cX4_pass 350 = .ok (.iload 5, 2) := by decide +kernel
theorem dX4_pass_352 : decode cX4_pass 352 = .ok (.iload 4, 2) := by decide +kernel
theorem dX4_pass_354 : decode cX4_pass 354 = .ok (.if_icmp .ge 68, 3) := by decide +kernel
theorem dX4_pass_357 : decode cX4_pass 357 = .ok (.aload_n 3, 1) := by decide +kernel
theorem dX4_pass_358 : decode cX4_pass 358 = .ok (.iload 5, 2) := by decide +kernel
theorem dX4_pass_360 : decode cX4_pass 360 = .ok (.aaload, 1) := by decide +kernel
theorem dX4_pass_361 : decode cX4_pass 361 = .ok (.astore 6, 2) := by decide +kernel
theorem dX4_pass_363 : decode cX4_pass 363 = .ok (.iconst 0, 1) := by decide +kernel
theorem dX4_pass_364 : decode cX4_pass 364 = .ok (.istore 7, 2) := by decide +kernel
theorem dX4_pass_366 : decode cX4_pass 366 = .ok (.iload 7, 2) := by decide +kernel
theorem dX4_pass_368 : decode cX4_pass 368 = .ok (.iconst 4, 1) := by decide +kernel
theorem dX4_pass_369 : decode cX4_pass 369 = .ok (.if_icmp .ge 47, 3) := by decide +kernel
theorem dX4_pass_372 : decode cX4_pass 372 = .ok (.aload 6, 2) := by decide +kernel
theorem dX4_pass_374 : decode cX4_pass 374 = .ok (.bipush 7, 2) := by decide +kernel
theorem dX4_pass_376 : decode cX4_pass 376 = .ok (.iaload, 1) := by decide +kernel
theorem dX4_pass_377 : decode cX4_pass 377 = .ok (.ifCond .ne 39, 3) := by decide +kernel
theorem dX4_pass_380 : decode cX4_pass 380 = .ok (.aload 6, 2) := by decide +kernel
theorem dX4_pass_382 : decode cX4_pass 382 = .ok (.iconst 3, 1) := by decide +kernel
theorem dX4_pass_383 : decode cX4_pass 383 = .ok (.iaload, 1) := by decide +kernel
theorem dX4_pass_384 : decode cX4_pass 384 = .ok (.aload 6, 2) := by decide +kernel
theorem dX4_pass_386 : decode cX4_pass 386 = .ok (.iconst 4, 1) := by decide +kernel
theorem dX4_pass_387 : decode cX4_pass 387 = .ok (.iaload, 1) := by decide +kernel
theorem dX4_pass_388 : decode cX4_pass 388 = .ok (.if_icmp .lt 28, 3) := by decide +kernel
theorem dX4_pass_391 : decode cX4_pass 391 = .ok (.aload 6, 2) := by decide +kernel
theorem dX4_pass_393 : decode cX4_pass 393 = .ok (.iconst 3, 1) := by decide +kernel
theorem dX4_pass_394 : decode cX4_pass 394 = .ok (.dup2, 1) := by decide +kernel
theorem dX4_pass_395 : decode cX4_pass 395 = .ok (.iaload, 1) := by decide +kernel
theorem dX4_pass_396 : decode cX4_pass 396 = .ok (.aload 6, 2) := by decide +kernel
theorem dX4_pass_398 : decode cX4_pass 398 = .ok (.iconst 4, 1) := by decide +kernel
theorem dX4_pass_399 : decode cX4_pass 399 = .ok (.iaload, 1) := by decide +kernel
theorem dX4_pass_400 : decode cX4_pass 400 = .ok (.isub, 1) := by decide +kernel
theorem dX4_pass_401 : decode cX4_pass 401 = .ok (.iastore, 1) := by decide +kernel
theorem dX4_pass_402 : decode cX4_pass 402 = .ok (.aload 6, 2) := by decide +kernel
theorem dX4_pass_404 : decode cX4_pass 404 = .ok (.iconst 5, 1) := by decide +kernel
theorem dX4_pass_405 : decode cX4_pass 405 = .ok (.dup2, 1) := by decide +kernel
theorem dX4_pass_406 : decode cX4_pass 406 = .ok (.iaload, 1) := by decide +kernel
theorem dX4_pass_407 : decode cX4_pass 407 = .ok (.iconst 1, 1) := by decide +kernel
theorem dX4_pass_408 : decode cX4_pass 408 = .ok (.iadd, 1) := by decide +kernel
theorem dX4_pass_409 : decode cX4_pass 409 = .ok (.iastore, 1) := by decide +kernel
theorem dX4_pass_410 : decode cX4_pass 410 = .ok (.iinc 7 1, 3) := by decide +kernel
theorem dX4_pass_413 : decode cX4_pass 413 = .ok (.goto (-47), 3) := by decide +kernel
theorem dX4_pass_416 : decode cX4_pass 416 = .ok (.iinc 5 1, 3) := by decide +kernel
theorem dX4_pass_419 : decode cX4_pass 419 = .ok (.goto (-69), 3) := by decide +kernel
theorem dX4_pass_422 : decode cX4_pass 422 = .ok (.iload_n 1, 1) := by decide +kernel
theorem dX4_pass_423 : decode cX4_pass 423 = .ok (.bipush 12, 2) := by decide +kernel
theorem dX4_pass_425 : decode cX4_pass 425 = .ok (.if_icmp .ne 10, 3) := by decide +kernel
theorem dX4_pass_428 : decode cX4_pass 428 = .ok (.aload_n 0, 1) := by decide +kernel
theorem dX4_pass_429 : decode cX4_pass 429 = .ok (.getfield 7, 3) := by decide +kernel
theorem dX4_pass_432 : decode cX4_pass 432 = .ok (.goto 4, 3) := by decide +kernel
theorem dX4_pass_435 : decode cX4_pass 435 = .ok (.iconst 0, 1) := by decide +kernel
theorem dX4_pass_436 : decode cX4_pass 436 = .ok (.istore_n 3, 1) := by decide +kernel
theorem dX4_pass_437 : decode cX4_pass 437 = .ok (.aload_n 0, 1) := by decide +kernel
theorem dX4_pass_438 : decode cX4_pass 438 = .ok (.getfield 22, 3) := by decide +kernel
theorem dX4_pass_441 : decode cX4_pass 441 = .ok (.astore 4, 2) := by decide +kernel
theorem dX4_pass_443 : decode cX4_pass 443 = .ok (.aload 4, 2) := by decide +kernel
theorem dX4_pass_445 : decode cX4_pass 445 = .ok (.arraylength, 1) := by decide +kernel
theorem dX4_pass_446 : decode cX4_pass 446 = .ok (.istore 5, 2) := by decide +kernel
theorem dX4_pass_448 : decode cX4_pass 448 = .ok (.iconst 0, 1) := by decide +kernel
theorem dX4_pass_449 : decode cX4_pass 449 = .ok (.istore 6, 2) := by decide +kernel
theorem dX4_pass_451 : decode cX4_pass 451 = .ok (.iload 6, 2) := by decide +kernel
theorem dX4_pass_453 : decode cX4_pass 453 = .ok (.iload 5, 2) := by decide +kernel
theorem dX4_pass_455 : decode cX4_pass 455 = .ok (.if_icmp .ge 83, 3) := by decide +kernel
theorem dX4_pass_458 : decode cX4_pass 458 = .ok (.aload 4, 2) := by decide +kernel
theorem dX4_pass_460 : decode cX4_pass 460 = .ok (.iload 6, 2) := by decide +kernel
theorem dX4_pass_462 : decode cX4_pass 462 = .ok (.aaload, 1) := by decide +kernel
theorem dX4_pass_463 : decode cX4_pass 463 = .ok (.astore 7, 2) := by decide +kernel
theorem dX4_pass_465 : decode cX4_pass 465 = .ok (.iload_n 3, 1) := by decide +kernel
theorem dX4_pass_466 : decode cX4_pass 466 = .ok (.ifCond .le 66, 3) := by decide +kernel
theorem dX4_pass_469 : decode cX4_pass 469 = .ok (.aload 7, 2) := by decide +kernel
theorem dX4_pass_471 : decode cX4_pass 471 = .ok (.iconst 5, 1) := by decide +kernel
theorem dX4_pass_472 : decode cX4_pass 472 = .ok (.iaload, 1) := by decide +kernel
theorem dX4_pass_473 : decode cX4_pass 473 = .ok (.ifCond .le 59, 3) := by decide +kernel
theorem dX4_pass_476 : decode cX4_pass 476 = .ok (.aload 7, 2) := by decide +kernel
theorem dX4_pass_478 : decode cX4_pass 478 = .ok (.iconst 5, 1) := by decide +kernel
theorem dX4_pass_479 : decode cX4_pass 479 = .ok (.dup2, 1) := by decide +kernel
theorem dX4_pass_480 : decode cX4_pass 480 = .ok (.iaload, 1) := by decide +kernel
theorem dX4_pass_481 : decode cX4_pass 481 = .ok (.iconst 1, 1) := by decide +kernel
theorem dX4_pass_482 : decode cX4_pass 482 = .ok (.isub, 1) := by decide +kernel
theorem dX4_pass_483 : decode cX4_pass 483 = .ok (.iastore, 1) := by decide +kernel
theorem dX4_pass_484 : decode cX4_pass 484 = .ok (.aload 7, 2) := by decide +kernel
theorem dX4_pass_486 : decode cX4_pass 486 = .ok (.bipush 6, 2) := by decide +kernel
theorem dX4_pass_488 : decode cX4_pass 488 = .ok (.dup2, 1) := by decide +kernel
theorem dX4_pass_489 : decode cX4_pass 489 = .ok (.iaload, 1) := by decide +kernel
theorem dX4_pass_490 : decode cX4_pass 490 = .ok (.iconst 1, 1) := by decide +kernel
theorem dX4_pass_491 : decode cX4_pass 491 = .ok (.iadd, 1) := by decide +kernel
theorem dX4_pass_492 : decode cX4_pass 492 = .ok (.iastore, 1) := by decide +kernel
theorem dX4_pass_493 : decode cX4_pass 493 = .ok (.iinc 3 (-1), 3) := by decide +kernel
theorem dX4_pass_496 : decode cX4_pass 496 = .ok (.aload_n 0, 1) := by decide +kernel
theorem dX4_pass_497 : decode cX4_pass 497 = .ok (.dup, 1) := by decide +kernel
theorem dX4_pass_498 : decode cX4_pass 498 = .ok (.getfield 36, 3) := by decide +kernel
theorem dX4_pass_501 : decode cX4_pass 501 = .ok (.iconst 1, 1) := by decide +kernel
theorem dX4_pass_502 : decode cX4_pass 502 = .ok (.iadd, 1) := by decide +kernel
theorem dX4_pass_503 : decode cX4_pass 503 = .ok (.putfield 36, 3) := by decide +kernel
theorem dX4_pass_506 : decode cX4_pass 506 = .ok (.aload_n 0, 1) := by decide +kernel
theorem dX4_pass_507 : decode cX4_pass 507 = .ok (.dup, 1) := by decide +kernel
theorem dX4_pass_508 : decode cX4_pass 508 = .ok (.getfield 39, 3) := by decide +kernel
theorem dX4_pass_511 : decode cX4_pass 511 = .ok (.aload 7, 2) := by decide +kernel
theorem dX4_pass_513 : decode cX4_pass 513 = .ok (.iconst 4, 1) := by decide +kernel
theorem dX4_pass_514 : decode cX4_pass 514 = .ok (.iaload, 1) := by decide +kernel
theorem dX4_pass_515 : decode cX4_pass 515 = .ok (.bipush 10, 2) := by decide +kernel
theorem dX4_pass_517 : decode cX4_pass 517 = .ok (.if_icmp .ge 7, 3) := by decide +kernel
theorem dX4_pass_520 : decode cX4_pass 520 = .ok (.iconst 1, 1) := by decide +kernel
theorem dX4_pass_521 : decode cX4_pass 521 = .ok (.goto 4, 3) := by decide +kernel
theorem dX4_pass_524 : decode cX4_pass 524 = .ok (.iconst 0, 1) := by decide +kernel
theorem dX4_pass_525 : decode cX4_pass 525 = .ok (.iadd, 1) := by decide +kernel
theorem dX4_pass_526 : decode cX4_pass 526 = .ok (.putfield 39, 3) := by decide +kernel
theorem dX4_pass_529 : decode cX4_pass 529 = .ok (.goto (-64), 3) := by decide +kernel
theorem dX4_pass_532 : decode cX4_pass 532 = .ok (.iinc 6 1, 3) := by decide +kernel
theorem dX4_pass_535 : decode cX4_pass 535 = .ok (.goto (-84), 3) := by decide +kernel
theorem dX4_pass_538 : decode cX4_pass 538 = .ok (.aload_n 0, 1) := by decide +kernel
theorem dX4_pass_539 : decode cX4_pass 539 = .ok (.dup, 1) := by decide +kernel
theorem dX4_pass_540 : decode cX4_pass 540 = .ok (.getfield 42, 3) := by decide +kernel
theorem dX4_pass_543 : decode cX4_pass 543 = .ok (.iload_n 3, 1) := by decide +kernel
theorem dX4_pass_544 : decode cX4_pass 544 = .ok (.iadd, 1) := by decide +kernel
theorem dX4_pass_545 : decode cX4_pass 545 = .ok (.putfield 42, 3) := by decide +kernel
theorem dX4_pass_548 : decode cX4_pass 548 = .ok (.aload_n 0, 1) := by decide +kernel
theorem dX4_pass_549 : decode cX4_pass 549 = .ok (.dup, 1) := by decide +kernel
theorem dX4_pass_550 : decode cX4_pass 550 = .ok (.getfield 30, 3) := by decide +kernel
theorem dX4_pass_553 : decode cX4_pass 553 = .ok (.iconst 1, 1) := by decide +kernel
theorem dX4_pass_554 : decode cX4_pass 554 = .ok (.iadd, 1) := by decide +kernel
theorem dX4_pass_555 : decode cX4_pass 555 = .ok (.putfield 30, 3) := by decide +kernel
theorem dX4_pass_558 : decode cX4_pass 558 = .ok (.iload_n 3, 1) := by decide +kernel
theorem dX4_pass_559 : decode cX4_pass 559 = .ok (.ireturn, 1) := by decide +kernel
theorem dX4_stored_0 : decode cX4_stored 0 = .ok (.iconst 0, 1) := by decide +kernel
theorem dX4_stored_1 : decode cX4_stored 1 = .ok (.istore_n 2, 1) := by decide +kernel
theorem dX4_stored_2 : decode cX4_stored 2 = .ok (.aload_n 0, 1) := by decide +kernel
theorem dX4_stored_3 : decode cX4_stored 3 = .ok (.getfield 18, 3) := by decide +kernel
theorem dX4_stored_6 : decode cX4_stored 6 = .ok (.astore_n 3, 1) := by decide +kernel
theorem dX4_stored_7 : decode cX4_stored 7 = .ok (.aload_n 3, 1) := by decide +kernel
theorem dX4_stored_8 : decode cX4_stored 8 = .ok (.arraylength, 1) := by decide +kernel
theorem dX4_stored_9 : decode cX4_stored 9 = .ok (.istore 4, 2) := by decide +kernel
theorem dX4_stored_11 : decode cX4_stored 11 = .ok (.iconst 0, 1) := by decide +kernel
theorem dX4_stored_12 : decode cX4_stored 12 = .ok (.istore 5, 2) := by decide +kernel
theorem dX4_stored_14 : decode cX4_stored 14 = .ok (.iload 5, 2) := by decide +kernel
theorem dX4_stored_16 : decode cX4_stored 16 = .ok (.iload 4, 2) := by decide +kernel
theorem dX4_stored_18 : decode cX4_stored 18 = .ok (.if_icmp .ge 22, 3) := by decide +kernel
theorem dX4_stored_21 : decode cX4_stored 21 = .ok (.aload_n 3, 1) := by decide +kernel
theorem dX4_stored_22 : decode cX4_stored 22 = .ok (.iload 5, 2) := by decide +kernel
theorem dX4_stored_24 : decode cX4_stored 24 = .ok (.aaload, 1) := by decide +kernel
theorem dX4_stored_25 : decode cX4_stored 25 = .ok (.astore 6, 2) := by decide +kernel
theorem dX4_stored_27 : decode cX4_stored 27 = .ok (.iload_n 2, 1) := by decide +kernel
theorem dX4_stored_28 : decode cX4_stored 28 = .ok (.aload 6, 2) := by decide +kernel
theorem dX4_stored_30 : decode cX4_stored 30 = .ok (.iload_n 1, 1) := by decide +kernel
theorem dX4_stored_31 : decode cX4_stored 31 = .ok (.iaload, 1) := by decide +kernel
theorem dX4_stored_32 : decode cX4_stored 32 = .ok (.iadd, 1) := by decide +kernel
theorem dX4_stored_33 : decode cX4_stored 33 = .ok (.istore_n 2, 1) := by decide +kernel
theorem dX4_stored_34 : decode cX4_stored 34 = .ok (.iinc 5 1, 3) := by decide +kernel
theorem dX4_stored_37 : decode cX4_stored 37 = .ok (.goto (-23), 3) := by decide +kernel
theorem dX4_stored_40 : decode cX4_stored 40 = .ok (.iload_n 2, 1) := by decide +kernel
theorem dX4_stored_41 : decode cX4_stored 41 = .ok (.ireturn, 1) := by decide +kernel
theorem dX4_baked_0 : decode cX4_baked 0 = .ok (.iconst 0, 1) := by decide +kernel
theorem dX4_baked_1 : decode cX4_baked 1 = .ok (.istore_n 2, 1) := by decide +kernel
theorem dX4_baked_2 : decode cX4_baked 2 = .ok (.aload_n 0, 1) := by decide +kernel
theorem dX4_baked_3 : decode cX4_baked 3 = .ok (.getfield 22, 3) := by decide +kernel
theorem dX4_baked_6 : decode cX4_baked 6 = .ok (.astore_n 3, 1) := by decide +kernel
theorem dX4_baked_7 : decode cX4_baked 7 = .ok (.aload_n 3, 1) := by decide +kernel
theorem dX4_baked_8 : decode cX4_baked 8 = .ok (.arraylength, 1) := by decide +kernel
theorem dX4_baked_9 : decode cX4_baked 9 = .ok (.istore 4, 2) := by decide +kernel
theorem dX4_baked_11 : decode cX4_baked 11 = .ok (.iconst 0, 1) := by decide +kernel
theorem dX4_baked_12 : decode cX4_baked 12 = .ok (.istore 5, 2) := by decide +kernel
theorem dX4_baked_14 : decode cX4_baked 14 = .ok (.iload 5, 2) := by decide +kernel
theorem dX4_baked_16 : decode cX4_baked 16 = .ok (.iload 4, 2) := by decide +kernel
theorem dX4_baked_18 : decode cX4_baked 18 = .ok (.if_icmp .ge 22, 3) := by decide +kernel
theorem dX4_baked_21 : decode cX4_baked 21 = .ok (.aload_n 3, 1) := by decide +kernel
theorem dX4_baked_22 : decode cX4_baked 22 = .ok (.iload 5, 2) := by decide +kernel
theorem dX4_baked_24 : decode cX4_baked 24 = .ok (.aaload, 1) := by decide +kernel
theorem dX4_baked_25 : decode cX4_baked 25 = .ok (.astore 6, 2) := by decide +kernel
theorem dX4_baked_27 : decode cX4_baked 27 = .ok (.iload_n 2, 1) := by decide +kernel
theorem dX4_baked_28 : decode cX4_baked 28 = .ok (.aload 6, 2) := by decide +kernel
theorem dX4_baked_30 : decode cX4_baked 30 = .ok (.iload_n 1, 1) := by decide +kernel
theorem dX4_baked_31 : decode cX4_baked 31 = .ok (.iaload, 1) := by decide +kernel
theorem dX4_baked_32 : decode cX4_baked 32 = .ok (.iadd, 1) := by decide +kernel
theorem dX4_baked_33 : decode cX4_baked 33 = .ok (.istore_n 2, 1) := by decide +kernel
theorem dX4_baked_34 : decode cX4_baked 34 = .ok (.iinc 5 1, 3) := by decide +kernel
theorem dX4_baked_37 : decode cX4_baked 37 = .ok (.goto (-23), 3) := by decide +kernel
theorem dX4_baked_40 : decode cX4_baked 40 = .ok (.iload_n 2, 1) := by decide +kernel
theorem dX4_baked_41 : decode cX4_baked 41 = .ok (.ireturn, 1) := by decide +kernel
set_option maxRecDepth 20000 in
theorem ggX4_isSame_X3_store : GoodIn wsX4_isSame wsX3_store := goodIn_ca (goodIn_r _ [14, 15, 16, 17, 18, 19, 20, 21, 22, 23, 24, 25, 13, 26, 27, 28, 29, 30, 31, 32, 33, 34, 35, 36, 37, 38, 39, 40, 122, 123, 124, 125, 126, 127, 128, 129, 130, 131, 132, 133, 134, 135, 136, 137, 138, 139, 140, 141, 142, 143] (by decide +kernel) (by decide +kernel)) (goodIn_sub (fun _ h => List.mem_cons_of_mem _ (List.mem_append_right _ h)) (by decide +kernel))
set_option maxRecDepth 20000 in
theorem gX4_isSame_X3_store : GoodIn wsX4_isSame (wsV RX4 45 RX3 yX3_store wsX3_store) := goodIn_app (goodIn_of _ (by decide +kernel)) ggX4_isSame_X3_store
set_option maxRecDepth 20000 in
theorem ggX4_isSame_X3_baker : GoodIn wsX4_isSame wsX3_baker := goodIn_ca (goodIn_r _ [44, 15, 16, 17, 45, 46, 47, 21, 48, 39, 24, 25, 13, 26, 49, 50, 51, 52, 53, 54, 55, 56, 57, 58, 59, 60, 61, 122, 123, 124, 125, 126, 127, 128, 129, 130, 131, 132, 136, 137, 138, 139, 140, 141, 142, 143] (by decide +kernel) (by decide +kernel)) (goodIn_sub (fun _ h => List.mem_cons_of_mem _ (List.mem_append_right _ h)) (by decide +kernel))
set_option maxRecDepth 20000 in
theorem gX4_isSame_X3_baker : GoodIn wsX4_isSame (wsV RX4 51 RX3 yX3_baker wsX3_baker) := goodIn_app (goodIn_of _ (by decide +kernel)) ggX4_isSame_X3_baker
set_option maxRecDepth 20000 in
theorem ggX4_isSame_X4_stored : GoodIn wsX4_isSame wsX4_stored := goodIn_r _ [66, 1, 113, 114, 115, 116, 117, 118, 119, 120, 121] (by decide +kernel) (by decide +kernel)
set_option maxRecDepth 20000 in
theorem gX4_isSame_X4_stored : GoodIn wsX4_isSame (wsV RX4 54 RX4 yX4_stored wsX4_stored) := goodIn_app (goodIn_of _ (by decide +kernel)) ggX4_isSame_X4_stored
set_option maxRecDepth 20000 in
theorem ggX4_isSame_X4_baked : GoodIn wsX4_isSame wsX4_baked := goodIn_r _ [70, 2, 113, 114, 115, 116, 117, 118, 119, 120, 121] (by decide +kernel) (by decide +kernel)
set_option maxRecDepth 20000 in
theorem gX4_isSame_X4_baked : GoodIn wsX4_isSame (wsV RX4 58 RX4 yX4_baked wsX4_baked) := goodIn_app (goodIn_of _ (by decide +kernel)) ggX4_isSame_X4_baked
set_option maxRecDepth 20000 in
theorem ggX4_isSame_X3_count : GoodIn wsX4_isSame wsX3_count := goodIn_ca (goodIn_r _ [74, 15, 16, 17, 24, 25, 13, 26, 75, 76, 77, 21, 78, 79, 80, 81, 82, 83, 84, 85, 86, 87, 88, 89, 90, 91, 92, 93, 94, 95, 96, 23, 31, 97, 98, 99, 100, 39, 101, 102, 103, 104, 105, 106, 122, 123, 124, 125, 126, 127, 128, 129, 130, 131, 132, 133, 134, 135, 136, 137, 138, 139, 140, 141, 142, 143] (by decide +kernel) (by decide +kernel)) (goodIn_sub (fun _ h => List.mem_cons_of_mem _ (List.mem_append_right _ h)) (by decide +kernel))
set_option maxRecDepth 20000 in
theorem gX4_isSame_X3_count : GoodIn wsX4_isSame (wsV RX4 61 RX3 yX3_count wsX3_count) := goodIn_app (goodIn_of _ (by decide +kernel)) ggX4_isSame_X3_count
set_option maxRecDepth 20000 in
theorem ggX4_isSame_X3_share : GoodIn wsX4_isSame wsX3_share := goodIn_r _ [110, 17, 111, 112, 122, 123, 124, 125, 126, 127, 128, 129, 130, 131, 132] (by decide +kernel) (by decide +kernel)
set_option maxRecDepth 20000 in
theorem gX4_isSame_X3_share : GoodIn wsX4_isSame (wsV RX4 64 RX3 yX3_share wsX3_share) := goodIn_app (goodIn_of _ (by decide +kernel)) ggX4_isSame_X3_share
theorem dX4_isSame_0 : decode cX4_isSame 0 = .ok (.iconst 0, 1) := by decide +kernel
theorem dX4_isSame_1 : decode cX4_isSame 1 = .ok (.istore_n 2, 1) := by decide +kernel
theorem dX4_isSame_2 : decode cX4_isSame 2 = .ok (.iload_n 2, 1) := by decide +kernel
theorem dX4_isSame_3 : decode cX4_isSame 3 = .ok (.aload_n 0, 1) := by decide +kernel
theorem dX4_isSame_4 : decode cX4_isSame 4 = .ok (.getfield 18, 3) := by decide +kernel
theorem dX4_isSame_7 : decode cX4_isSame 7 = .ok (.arraylength, 1) := by decide +kernel
theorem dX4_isSame_8 : decode cX4_isSame 8 = .ok (.if_icmp .ge 135, 3) := by decide +kernel
theorem dX4_isSame_11 : decode cX4_isSame 11 = .ok (.iconst 0, 1) := by decide +kernel
theorem dX4_isSame_12 : decode cX4_isSame 12 = .ok (.istore_n 3, 1) := by decide +kernel
theorem dX4_isSame_13 : decode cX4_isSame 13 = .ok (.aload_n 0, 1) := by decide +kernel
theorem dX4_isSame_14 : decode cX4_isSame 14 = .ok (.getfield 22, 3) := by decide +kernel
theorem dX4_isSame_17 : decode cX4_isSame 17 = .ok (.astore 4, 2) := by decide +kernel
theorem dX4_isSame_19 : decode cX4_isSame 19 = .ok (.aload 4, 2) := by decide +kernel
theorem dX4_isSame_21 : decode cX4_isSame 21 = .ok (.arraylength, 1) := by decide +kernel
theorem dX4_isSame_22 : decode cX4_isSame 22 = .ok (.istore 5, 2) := by decide +kernel
theorem dX4_isSame_24 : decode cX4_isSame 24 = .ok (.iconst 0, 1) := by decide +kernel
theorem dX4_isSame_25 : decode cX4_isSame 25 = .ok (.istore 6, 2) := by decide +kernel
theorem dX4_isSame_27 : decode cX4_isSame 27 = .ok (.iload 6, 2) := by decide +kernel
theorem dX4_isSame_29 : decode cX4_isSame 29 = .ok (.iload 5, 2) := by decide +kernel
theorem dX4_isSame_31 : decode cX4_isSame 31 = .ok (.if_icmp .ge 32, 3) := by decide +kernel
theorem dX4_isSame_34 : decode cX4_isSame 34 = .ok (.aload 4, 2) := by decide +kernel
theorem dX4_isSame_36 : decode cX4_isSame 36 = .ok (.iload 6, 2) := by decide +kernel
theorem dX4_isSame_38 : decode cX4_isSame 38 = .ok (.aaload, 1) := by decide +kernel
theorem dX4_isSame_39 : decode cX4_isSame 39 = .ok (.astore 7, 2) := by decide +kernel
theorem dX4_isSame_41 : decode cX4_isSame 41 = .ok (.iload_n 3, 1) := by decide +kernel
theorem dX4_isSame_42 : decode cX4_isSame 42 = .ok (.aload 7, 2) := by decide +kernel
theorem dX4_isSame_44 : decode cX4_isSame 44 = .ok (.iconst 0, 1) := by decide +kernel
theorem dX4_isSame_45 : decode cX4_isSame 45 = .ok (.iaload, 1) := by decide +kernel
theorem dX4_isSame_46 : decode cX4_isSame 46 = .ok (.iload_n 2, 1) := by decide +kernel
theorem dX4_isSame_47 : decode cX4_isSame 47 = .ok (.if_icmp .ne 7, 3) := by decide +kernel
theorem dX4_isSame_50 : decode cX4_isSame 50 = .ok (.iconst 1, 1) := by decide +kernel
theorem dX4_isSame_51 : decode cX4_isSame 51 = .ok (.goto 4, 3) := by decide +kernel
theorem dX4_isSame_54 : decode cX4_isSame 54 = .ok (.iconst 0, 1) := by decide +kernel
theorem dX4_isSame_55 : decode cX4_isSame 55 = .ok (.iadd, 1) := by decide +kernel
theorem dX4_isSame_56 : decode cX4_isSame 56 = .ok (.istore_n 3, 1) := by decide +kernel
theorem dX4_isSame_57 : decode cX4_isSame 57 = .ok (.iinc 6 1, 3) := by decide +kernel
theorem dX4_isSame_60 : decode cX4_isSame 60 = .ok (.goto (-33), 3) := by decide +kernel
theorem dX4_isSame_63 : decode cX4_isSame 63 = .ok (.iconst 4, 1) := by decide +kernel
theorem dX4_isSame_64 : decode cX4_isSame 64 = .ok (.newarray .int, 2) := by decide +kernel
theorem dX4_isSame_66 : decode cX4_isSame 66 = .ok (.dup, 1) := by decide +kernel
theorem dX4_isSame_67 : decode cX4_isSame 67 = .ok (.iconst 0, 1) := by decide +kernel
theorem dX4_isSame_68 : decode cX4_isSame 68 = .ok (.aload_n 0, 1) := by decide +kernel
theorem dX4_isSame_69 : decode cX4_isSame 69 = .ok (.getfield 18, 3) := by decide +kernel
theorem dX4_isSame_72 : decode cX4_isSame 72 = .ok (.iload_n 2, 1) := by decide +kernel
theorem dX4_isSame_73 : decode cX4_isSame 73 = .ok (.aaload, 1) := by decide +kernel
theorem dX4_isSame_74 : decode cX4_isSame 74 = .ok (.iconst 0, 1) := by decide +kernel
theorem dX4_isSame_75 : decode cX4_isSame 75 = .ok (.iaload, 1) := by decide +kernel
theorem dX4_isSame_76 : decode cX4_isSame 76 = .ok (.iastore, 1) := by decide +kernel
theorem dX4_isSame_77 : decode cX4_isSame 77 = .ok (.dup, 1) := by decide +kernel
theorem dX4_isSame_78 : decode cX4_isSame 78 = .ok (.iconst 1, 1) := by decide +kernel
theorem dX4_isSame_79 : decode cX4_isSame 79 = .ok (.aload_n 0, 1) := by decide +kernel
theorem dX4_isSame_80 : decode cX4_isSame 80 = .ok (.getfield 18, 3) := by decide +kernel
theorem dX4_isSame_83 : decode cX4_isSame 83 = .ok (.iload_n 2, 1) := by decide +kernel
theorem dX4_isSame_84 : decode cX4_isSame 84 = .ok (.aaload, 1) := by decide +kernel
theorem dX4_isSame_85 : decode cX4_isSame 85 = .ok (.iconst 1, 1) := by decide +kernel
theorem dX4_isSame_86 : decode cX4_isSame 86 = .ok (.iaload, 1) := by decide +kernel
theorem dX4_isSame_87 : decode cX4_isSame 87 = .ok (.iastore, 1) := by decide +kernel
theorem dX4_isSame_88 : decode cX4_isSame 88 = .ok (.dup, 1) := by decide +kernel
theorem dX4_isSame_89 : decode cX4_isSame 89 = .ok (.iconst 2, 1) := by decide +kernel
theorem dX4_isSame_90 : decode cX4_isSame 90 = .ok (.iload_n 3, 1) := by decide +kernel
theorem dX4_isSame_91 : decode cX4_isSame 91 = .ok (.iastore, 1) := by decide +kernel
theorem dX4_isSame_92 : decode cX4_isSame 92 = .ok (.dup, 1) := by decide +kernel
theorem dX4_isSame_93 : decode cX4_isSame 93 = .ok (.iconst 3, 1) := by decide +kernel
theorem dX4_isSame_94 : decode cX4_isSame 94 = .ok (.aload_n 0, 1) := by decide +kernel
theorem dX4_isSame_95 : decode cX4_isSame 95 = .ok (.getfield 18, 3) := by decide +kernel
theorem dX4_isSame_98 : decode cX4_isSame 98 = .ok (.iload_n 2, 1) := by decide +kernel
theorem dX4_isSame_99 : decode cX4_isSame 99 = .ok (.aaload, 1) := by decide +kernel
theorem dX4_isSame_100 : decode cX4_isSame 100 = .ok (.iconst 2, 1) := by decide +kernel
theorem dX4_isSame_101 : decode cX4_isSame 101 = .ok (.iaload, 1) := by decide +kernel
theorem dX4_isSame_102 : decode cX4_isSame 102 = .ok (.iastore, 1) := by decide +kernel
theorem dX4_isSame_103 : decode cX4_isSame 103 = .ok (.astore 4, 2) := by decide +kernel
theorem dX4_isSame_105 : decode cX4_isSame 105 = .ok (.iconst 0, 1) := by decide +kernel
theorem dX4_isSame_106 : decode cX4_isSame 106 = .ok (.istore 5, 2) := by decide +kernel
theorem dX4_isSame_108 : decode cX4_isSame 108 = .ok (.iload 5, 2) := by decide +kernel
theorem dX4_isSame_110 : decode cX4_isSame 110 = .ok (.iconst 4, 1) := by decide +kernel
theorem dX4_isSame_111 : decode cX4_isSame 111 = .ok (.if_icmp .ge 26, 3) := by decide +kernel
theorem dX4_isSame_114 : decode cX4_isSame 114 = .ok (.aload_n 1, 1) := by decide +kernel
theorem dX4_isSame_115 : decode cX4_isSame 115 = .ok (.iload_n 2, 1) := by decide +kernel
theorem dX4_isSame_116 : decode cX4_isSame 116 = .ok (.iload 5, 2) := by decide +kernel
theorem dX4_isSame_118 : decode cX4_isSame 118 = .ok (.invokevirtual 45, 3) := by decide +kernel
theorem dX4_isSame_121 : decode cX4_isSame 121 = .ok (.aload 4, 2) := by decide +kernel
theorem dX4_isSame_123 : decode cX4_isSame 123 = .ok (.iload 5, 2) := by decide +kernel
theorem dX4_isSame_125 : decode cX4_isSame 125 = .ok (.iaload, 1) := by decide +kernel
theorem dX4_isSame_126 : decode cX4_isSame 126 = .ok (.if_icmp .eq 5, 3) := by decide +kernel
theorem dX4_isSame_129 : decode cX4_isSame 129 = .ok (.iconst 0, 1) := by decide +kernel
theorem dX4_isSame_130 : decode cX4_isSame 130 = .ok (.ireturn, 1) := by decide +kernel
theorem dX4_isSame_131 : decode cX4_isSame 131 = .ok (.iinc 5 1, 3) := by decide +kernel
theorem dX4_isSame_134 : decode cX4_isSame 134 = .ok (.goto (-26), 3) := by decide +kernel
theorem dX4_isSame_137 : decode cX4_isSame 137 = .ok (.iinc 2 1, 3) := by decide +kernel
theorem dX4_isSame_140 : decode cX4_isSame 140 = .ok (.goto (-138), 3) := by decide +kernel
theorem dX4_isSame_143 : decode cX4_isSame 143 = .ok (.iconst 0, 1) := by decide +kernel
theorem dX4_isSame_144 : decode cX4_isSame 144 = .ok (.istore_n 2, 1) := by decide +kernel
theorem dX4_isSame_145 : decode cX4_isSame 145 = .ok (.iload_n 2, 1) := by decide +kernel
theorem dX4_isSame_146 : decode cX4_isSame 146 = .ok (.aload_n 0, 1) := by decide +kernel
theorem dX4_isSame_147 : decode cX4_isSame 147 = .ok (.getfield 22, 3) := by decide +kernel
theorem dX4_isSame_150 : decode cX4_isSame 150 = .ok (.arraylength, 1) := by decide +kernel
theorem dX4_isSame_151 : decode cX4_isSame 151 = .ok (.if_icmp .ge 42, 3) := by decide +kernel
theorem dX4_isSame_154 : decode cX4_isSame 154 = .ok (.iconst 0, 1) := by decide +kernel
theorem dX4_isSame_155 : decode cX4_isSame 155 = .ok (.istore_n 3, 1) := by decide +kernel
theorem dX4_isSame_156 : decode cX4_isSame 156 = .ok (.iload_n 3, 1) := by decide +kernel
theorem dX4_isSame_157 : decode cX4_isSame 157 = .ok (.bipush 8, 2) := by decide +kernel
theorem dX4_isSame_159 : decode cX4_isSame 159 = .ok (.if_icmp .ge 28, 3) := by decide +kernel
theorem dX4_isSame_162 : decode cX4_isSame 162 = .ok (.aload_n 1, 1) := by decide +kernel
theorem dX4_isSame_163 : decode cX4_isSame 163 = .ok (.iload_n 2, 1) := by decide +kernel
theorem dX4_isSame_164 : decode cX4_isSame 164 = .ok (.iload_n 3, 1) := by decide +kernel
theorem dX4_isSame_165 : decode cX4_isSame 165 = .ok (.invokevirtual 51, 3) := by decide +kernel
theorem dX4_isSame_168 : decode cX4_isSame 168 = .ok (.aload_n 0, 1) := by decide +kernel
theorem dX4_isSame_169 : decode cX4_isSame 169 = .ok (.getfield 22, 3) := by decide +kernel
theorem dX4_isSame_172 : decode cX4_isSame 172 = .ok (.iload_n 2, 1) := by decide +kernel
theorem dX4_isSame_173 : decode cX4_isSame 173 = .ok (.aaload, 1) := by decide +kernel
theorem dX4_isSame_174 : decode cX4_isSame 174 = .ok (.iload_n 3, 1) := by decide +kernel
theorem dX4_isSame_175 : decode cX4_isSame 175 = .ok (.iaload, 1) := by decide +kernel
theorem dX4_isSame_176 : decode cX4_isSame 176 = .ok (.if_icmp .eq 5, 3) := by decide +kernel
theorem dX4_isSame_179 : decode cX4_isSame 179 = .ok (.iconst 0, 1) := by decide +kernel
theorem dX4_isSame_180 : decode cX4_isSame 180 = .ok (.ireturn, 1) := by decide +kernel
theorem dX4_isSame_181 : decode cX4_isSame 181 = .ok (.iinc 3 1, 3) := by decide +kernel
theorem dX4_isSame_184 : decode cX4_isSame 184 = .ok (.goto (-28), 3) := by decide +kernel
theorem dX4_isSame_187 : decode cX4_isSame 187 = .ok (.iinc 2 1, 3) := by decide +kernel
theorem dX4_isSame_190 : decode cX4_isSame 190 = .ok (.goto (-45), 3) := by decide +kernel
theorem dX4_isSame_193 : decode cX4_isSame 193 = .ok (.bipush 10, 2) := by decide +kernel
theorem dX4_isSame_195 : decode cX4_isSame 195 = .ok (.newarray .int, 2) := by decide +kernel
theorem dX4_isSame_197 : decode cX4_isSame 197 = .ok (.dup, 1) := by decide +kernel
theorem dX4_isSame_198 : decode cX4_isSame 198 = .ok (.iconst 0, 1) := by decide +kernel
theorem dX4_isSame_199 : decode cX4_isSame 199 = .ok (.aload_n 0, 1) := by decide +kernel
theorem dX4_isSame_200 : decode cX4_isSame 200 = .ok (.getfield 30, 3) := by decide +kernel
theorem dX4_isSame_203 : decode cX4_isSame 203 = .ok (.iastore, 1) := by decide +kernel
theorem dX4_isSame_204 : decode cX4_isSame 204 = .ok (.dup, 1) := by decide +kernel
theorem dX4_isSame_205 : decode cX4_isSame 205 = .ok (.iconst 1, 1) := by decide +kernel
theorem dX4_isSame_206 : decode cX4_isSame 206 = .ok (.aload_n 0, 1) := by decide +kernel
theorem dX4_isSame_207 : decode cX4_isSame 207 = .ok (.getfield 30, 3) := by decide +kernel
theorem dX4_isSame_210 : decode cX4_isSame 210 = .ok (.bipush 24, 2) := by decide +kernel
theorem dX4_isSame_212 : decode cX4_isSame 212 = .ok (.irem, 1) := by decide +kernel
theorem dX4_isSame_213 : decode cX4_isSame 213 = .ok (.iastore, 1) := by decide +kernel
theorem dX4_isSame_214 : decode cX4_isSame 214 = .ok (.dup, 1) := by decide +kernel
theorem dX4_isSame_215 : decode cX4_isSame 215 = .ok (.iconst 2, 1) := by decide +kernel
theorem dX4_isSame_216 : decode cX4_isSame 216 = .ok (.aload_n 0, 1) := by decide +kernel
theorem dX4_isSame_217 : decode cX4_isSame 217 = .ok (.getfield 7, 3) := by decide +kernel
theorem dX4_isSame_220 : decode cX4_isSame 220 = .ok (.iastore, 1) := by decide +kernel
theorem dX4_isSame_221 : decode cX4_isSame 221 = .ok (.dup, 1) := by decide +kernel
theorem dX4_isSame_222 : decode cX4_isSame 222 = .ok (.iconst 3, 1) := by decide +kernel
theorem dX4_isSame_223 : decode cX4_isSame 223 = .ok (.aload_n 0, 1) := by decide +kernel
theorem dX4_isSame_224 : decode cX4_isSame 224 = .ok (.iconst 0, 1) := by decide +kernel
theorem dX4_isSame_225 : decode cX4_isSame 225 = .ok (.invokevirtual 54, 3) := by decide +kernel
theorem dX4_isSame_228 : decode cX4_isSame 228 = .ok (.iastore, 1) := by decide +kernel
theorem dX4_isSame_229 : decode cX4_isSame 229 = .ok (.dup, 1) := by decide +kernel
theorem dX4_isSame_230 : decode cX4_isSame 230 = .ok (.iconst 4, 1) := by decide +kernel
theorem dX4_isSame_231 : decode cX4_isSame 231 = .ok (.aload_n 0, 1) := by decide +kernel
theorem dX4_isSame_232 : decode cX4_isSame 232 = .ok (.iconst 5, 1) := by decide +kernel
theorem dX4_isSame_233 : decode cX4_isSame 233 = .ok (.invokevirtual 58, 3) := by decide +kernel
theorem dX4_isSame_236 : decode cX4_isSame 236 = .ok (.iastore, 1) := by decide +kernel
theorem dX4_isSame_237 : decode cX4_isSame 237 = .ok (.dup, 1) := by decide +kernel
theorem dX4_isSame_238 : decode cX4_isSame 238 = .ok (.iconst 5, 1) := by decide +kernel
theorem dX4_isSame_239 : decode cX4_isSame 239 = .ok (.aload_n 0, 1) := by decide +kernel
theorem dX4_isSame_240 : decode cX4_isSame 240 = .ok (.getfield 36, 3) := by decide +kernel
theorem dX4_isSame_243 : decode cX4_isSame 243 = .ok (.iastore, 1) := by decide +kernel
theorem dX4_isSame_244 : decode cX4_isSame 244 = .ok (.dup, 1) := by decide +kernel
theorem dX4_isSame_245 : decode cX4_isSame 245 = .ok (.bipush 6, 2) := by decide +kernel
theorem dX4_isSame_247 : decode cX4_isSame 247 = .ok (.aload_n 0, 1) := by decide +kernel
theorem dX4_isSame_248 : decode cX4_isSame 248 = .ok (.getfield 39, 3) := by decide +kernel
theorem dX4_isSame_251 : decode cX4_isSame 251 = .ok (.iastore, 1) := by decide +kernel
theorem dX4_isSame_252 : decode cX4_isSame 252 = .ok (.dup, 1) := by decide +kernel
theorem dX4_isSame_253 : decode cX4_isSame 253 = .ok (.bipush 7, 2) := by decide +kernel
theorem dX4_isSame_255 : decode cX4_isSame 255 = .ok (.aload_n 0, 1) := by decide +kernel
theorem dX4_isSame_256 : decode cX4_isSame 256 = .ok (.getfield 42, 3) := by decide +kernel
theorem dX4_isSame_259 : decode cX4_isSame 259 = .ok (.iastore, 1) := by decide +kernel
theorem dX4_isSame_260 : decode cX4_isSame 260 = .ok (.dup, 1) := by decide +kernel
theorem dX4_isSame_261 : decode cX4_isSame 261 = .ok (.bipush 8, 2) := by decide +kernel
theorem dX4_isSame_263 : decode cX4_isSame 263 = .ok (.aload_n 0, 1) := by decide +kernel
theorem dX4_isSame_264 : decode cX4_isSame 264 = .ok (.bipush 7, 2) := by decide +kernel
theorem dX4_isSame_266 : decode cX4_isSame 266 = .ok (.invokevirtual 58, 3) := by decide +kernel
theorem dX4_isSame_269 : decode cX4_isSame 269 = .ok (.iastore, 1) := by decide +kernel
theorem dX4_isSame_270 : decode cX4_isSame 270 = .ok (.dup, 1) := by decide +kernel
theorem dX4_isSame_271 : decode cX4_isSame 271 = .ok (.bipush 9, 2) := by decide +kernel
theorem dX4_isSame_273 : decode cX4_isSame 273 = .ok (.aload_n 0, 1) := by decide +kernel
theorem dX4_isSame_274 : decode cX4_isSame 274 = .ok (.getfield 33, 3) := by decide +kernel
theorem dX4_isSame_277 : decode cX4_isSame 277 = .ok (.iastore, 1) := by decide +kernel
theorem dX4_isSame_278 : decode cX4_isSame 278 = .ok (.astore_n 2, 1) := by decide +kernel
theorem dX4_isSame_279 : decode cX4_isSame 279 = .ok (.iconst 0, 1) := by decide +kernel
theorem dX4_isSame_280 : decode cX4_isSame 280 = .ok (.istore_n 3, 1) := by decide +kernel
theorem dX4_isSame_281 : decode cX4_isSame 281 = .ok (.iload_n 3, 1) := by decide +kernel
theorem dX4_isSame_282 : decode cX4_isSame 282 = .ok (.bipush 10, 2) := by decide +kernel
theorem dX4_isSame_284 : decode cX4_isSame 284 = .ok (.if_icmp .ge 22, 3) := by decide +kernel
theorem dX4_isSame_287 : decode cX4_isSame 287 = .ok (.aload_n 1, 1) := by decide +kernel
theorem dX4_isSame_288 : decode cX4_isSame 288 = .ok (.iload_n 3, 1) := by decide +kernel
theorem dX4_isSame_289 : decode cX4_isSame 289 = .ok (.invokevirtual 61, 3) := by decide +kernel
theorem dX4_isSame_292 : decode cX4_isSame 292 = .ok (.aload_n 2, 1) := by decide +kernel
theorem dX4_isSame_293 : decode cX4_isSame 293 = .ok (.iload_n 3, 1) := by decide +kernel
theorem dX4_isSame_294 : decode cX4_isSame 294 = .ok (.iaload, 1) := by decide +kernel
theorem dX4_isSame_295 : decode cX4_isSame 295 = .ok (.if_icmp .eq 5, 3) := by decide +kernel
theorem dX4_isSame_298 : decode cX4_isSame 298 = .ok (.iconst 0, 1) := by decide +kernel
theorem dX4_isSame_299 : decode cX4_isSame 299 = .ok (.ireturn, 1) := by decide +kernel
theorem dX4_isSame_300 : decode cX4_isSame 300 = .ok (.iinc 3 1, 3) := by decide +kernel
theorem dX4_isSame_303 : decode cX4_isSame 303 = .ok (.goto (-22), 3) := by decide +kernel
theorem dX4_isSame_306 : decode cX4_isSame 306 = .ok (.aload_n 1, 1) := by decide +kernel
theorem dX4_isSame_307 : decode cX4_isSame 307 = .ok (.invokevirtual 64, 3) := by decide +kernel
theorem dX4_isSame_310 : decode cX4_isSame 310 = .ok (.aload_n 0, 1) := by decide +kernel
theorem dX4_isSame_311 : decode cX4_isSame 311 = .ok (.getfield 36, 3) := by decide +kernel
theorem dX4_isSame_314 : decode cX4_isSame 314 = .ok (.ifCond .ne 7, 3) := by decide +kernel
theorem dX4_isSame_317 : decode cX4_isSame 317 = .ok (.dconst 0, 1) := by decide +kernel
theorem dX4_isSame_318 : decode cX4_isSame 318 = .ok (.goto 14, 3) := by decide +kernel
theorem dX4_isSame_321 : decode cX4_isSame 321 = .ok (.aload_n 0, 1) := by decide +kernel
theorem dX4_isSame_322 : decode cX4_isSame 322 = .ok (.getfield 39, 3) := by decide +kernel
theorem dX4_isSame_325 : decode cX4_isSame 325 = .ok (.i2d, 1) := by decide +kernel
theorem dX4_isSame_326 : decode cX4_isSame 326 = .ok (.aload_n 0, 1) := by decide +kernel
theorem dX4_isSame_327 : decode cX4_isSame 327 = .ok (.getfield 36, 3) := by decide +kernel
theorem dX4_isSame_330 : decode cX4_isSame 330 = .ok (.i2d, 1) := by decide +kernel
theorem dX4_isSame_331 : decode cX4_isSame 331 = .ok (.ddiv, 1) := by decide +kernel
theorem dX4_isSame_332 : decode cX4_isSame 332 = .ok (.dcmp .l, 1) := by decide +kernel
theorem dX4_isSame_333 : decode cX4_isSame 333 = .ok (.ifCond .ne 7, 3) := by decide +kernel
theorem dX4_isSame_336 : decode cX4_isSame 336 = .ok (.iconst 1, 1) := by decide +kernel
theorem dX4_isSame_337 : decode cX4_isSame 337 = .ok (.goto 4, 3) := by decide +kernel
theorem dX4_isSame_340 : decode cX4_isSame 340 = .ok (.iconst 0, 1) := by decide +kernel
theorem dX4_isSame_341 : decode cX4_isSame 341 = .ok (.ireturn, 1) := by decide +kernel
