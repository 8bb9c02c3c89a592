theorem dX7_boughOf_17 : decode cX7_boughOf 17 = .ok (.iastore, 1) := by decide +kernel
theorem dX7_boughOf_18 : decode cX7_boughOf 18 = .ok (.aload_n 0, 1) := by decide +kernel
theorem dX7_boughOf_19 : decode cX7_boughOf 19 = .ok (.getfield 16, 3) := by decide +kernel
theorem dX7_boughOf_22 : decode cX7_boughOf 22 = .ok (.bipush 13, 2) := by decide +kernel
theorem dX7_boughOf_24 : decode cX7_boughOf 24 = .ok (.iload 5, 2) := by decide +kernel
theorem dX7_boughOf_26 : decode cX7_boughOf 26 = .ok (.iadd, 1) := by decide +kernel
theorem dX7_boughOf_27 : decode cX7_boughOf 27 = .ok (.iload_n 2, 1) := by decide +kernel
theorem dX7_boughOf_28 : decode cX7_boughOf 28 = .ok (.iastore, 1) := by decide +kernel
theorem dX7_boughOf_29 : decode cX7_boughOf 29 = .ok (.aload_n 0, 1) := by decide +kernel
theorem dX7_boughOf_30 : decode cX7_boughOf 30 = .ok (.getfield 16, 3) := by decide +kernel
theorem dX7_boughOf_33 : decode cX7_boughOf 33 = .ok (.bipush 21, 2) := by decide +kernel
theorem dX7_boughOf_35 : decode cX7_boughOf 35 = .ok (.iload 5, 2) := by decide +kernel
theorem dX7_boughOf_37 : decode cX7_boughOf 37 = .ok (.iadd, 1) := by decide +kernel
theorem dX7_boughOf_38 : decode cX7_boughOf 38 = .ok (.iload_n 3, 1) := by decide +kernel
theorem dX7_boughOf_39 : decode cX7_boughOf 39 = .ok (.iastore, 1) := by decide +kernel
theorem dX7_boughOf_40 : decode cX7_boughOf 40 = .ok (.aload_n 0, 1) := by decide +kernel
theorem dX7_boughOf_41 : decode cX7_boughOf 41 = .ok (.getfield 19, 3) := by decide +kernel
theorem dX7_boughOf_44 : decode cX7_boughOf 44 = .ok (.iload 5, 2) := by decide +kernel
theorem dX7_boughOf_46 : decode cX7_boughOf 46 = .ok (.iload 4, 2) := by decide +kernel
theorem dX7_boughOf_48 : decode cX7_boughOf 48 = .ok (.iastore, 1) := by decide +kernel
theorem dX7_boughOf_49 : decode cX7_boughOf 49 = .ok (.aload_n 0, 1) := by decide +kernel
theorem dX7_boughOf_50 : decode cX7_boughOf 50 = .ok (.getfield 16, 3) := by decide +kernel
theorem dX7_boughOf_53 : decode cX7_boughOf 53 = .ok (.iconst 0, 1) := by decide +kernel
theorem dX7_boughOf_54 : decode cX7_boughOf 54 = .ok (.dup2, 1) := by decide +kernel
theorem dX7_boughOf_55 : decode cX7_boughOf 55 = .ok (.iaload, 1) := by decide +kernel
theorem dX7_boughOf_56 : decode cX7_boughOf 56 = .ok (.iconst 1, 1) := by decide +kernel
theorem dX7_boughOf_57 : decode cX7_boughOf 57 = .ok (.iadd, 1) := by decide +kernel
theorem dX7_boughOf_58 : decode cX7_boughOf 58 = .ok (.iastore, 1) := by decide +kernel
theorem dX7_boughOf_59 : decode cX7_boughOf 59 = .ok (.return_, 1) := by decide +kernel
theorem dX7_tenantOf_0 : decode cX7_tenantOf 0 = .ok (.aload_n 0, 1) := by decide +kernel
theorem dX7_tenantOf_1 : decode cX7_tenantOf 1 = .ok (.getfield 16, 3) := by decide +kernel
theorem dX7_tenantOf_4 : decode cX7_tenantOf 4 = .ok (.iconst 1, 1) := by decide +kernel
theorem dX7_tenantOf_5 : decode cX7_tenantOf 5 = .ok (.iaload, 1) := by decide +kernel
theorem dX7_tenantOf_6 : decode cX7_tenantOf 6 = .ok (.istore 4, 2) := by decide +kernel
theorem dX7_tenantOf_8 : decode cX7_tenantOf 8 = .ok (.aload_n 0, 1) := by decide +kernel
theorem dX7_tenantOf_9 : decode cX7_tenantOf 9 = .ok (.getfield 16, 3) := by decide +kernel
theorem dX7_tenantOf_12 : decode cX7_tenantOf 12 = .ok (.bipush 29, 2) := by decide +kernel
theorem dX7_tenantOf_14 : decode cX7_tenantOf 14 = .ok (.iload 4, 2) := by decide +kernel
theorem dX7_tenantOf_16 : decode cX7_tenantOf 16 = .ok (.iadd, 1) := by decide +kernel
theorem dX7_tenantOf_17 : decode cX7_tenantOf 17 = .ok (.iload_n 2, 1) := by decide +kernel
theorem dX7_tenantOf_18 : decode cX7_tenantOf 18 = .ok (.iastore, 1) := by decide +kernel
theorem dX7_tenantOf_19 : decode cX7_tenantOf 19 = .ok (.aload_n 0, 1) := by decide +kernel
theorem dX7_tenantOf_20 : decode cX7_tenantOf 20 = .ok (.getfield 16, 3) := by decide +kernel
theorem dX7_tenantOf_23 : decode cX7_tenantOf 23 = .ok (.bipush 33, 2) := by decide +kernel
theorem dX7_tenantOf_25 : decode cX7_tenantOf 25 = .ok (.iload 4, 2) := by decide +kernel
theorem dX7_tenantOf_27 : decode cX7_tenantOf 27 = .ok (.iadd, 1) := by decide +kernel
theorem dX7_tenantOf_28 : decode cX7_tenantOf 28 = .ok (.iload_n 3, 1) := by decide +kernel
theorem dX7_tenantOf_29 : decode cX7_tenantOf 29 = .ok (.iastore, 1) := by decide +kernel
theorem dX7_tenantOf_30 : decode cX7_tenantOf 30 = .ok (.aload_n 0, 1) := by decide +kernel
theorem dX7_tenantOf_31 : decode cX7_tenantOf 31 = .ok (.getfield 19, 3) := by decide +kernel
theorem dX7_tenantOf_34 : decode cX7_tenantOf 34 = .ok (.bipush 16, 2) := by decide +kernel
theorem dX7_tenantOf_36 : decode cX7_tenantOf 36 = .ok (.iload 4, 2) := by decide +kernel
theorem dX7_tenantOf_38 : decode cX7_tenantOf 38 = .ok (.iadd, 1) := by decide +kernel
theorem dX7_tenantOf_39 : decode cX7_tenantOf 39 = .ok (.iload_n 1, 1) := by decide +kernel
theorem dX7_tenantOf_40 : decode cX7_tenantOf 40 = .ok (.iastore, 1) := by decide +kernel
theorem dX7_tenantOf_41 : decode cX7_tenantOf 41 = .ok (.aload_n 0, 1) := by decide +kernel
theorem dX7_tenantOf_42 : decode cX7_tenantOf 42 = .ok (.getfield 16, 3) := by decide +kernel
theorem dX7_tenantOf_45 : decode cX7_tenantOf 45 = .ok (.iconst 1, 1) := by decide +kernel
theorem dX7_tenantOf_46 : decode cX7_tenantOf 46 = .ok (.dup2, 1) := by decide +kernel
theorem dX7_tenantOf_47 : decode cX7_tenantOf 47 = .ok (.iaload, 1) := by decide +kernel
theorem dX7_tenantOf_48 : decode cX7_tenantOf 48 = .ok (.iconst 1, 1) := by decide +kernel
theorem dX7_tenantOf_49 : decode cX7_tenantOf 49 = .ok (.iadd, 1) := by decide +kernel
theorem dX7_tenantOf_50 : decode cX7_tenantOf 50 = .ok (.iastore, 1) := by decide +kernel
theorem dX7_tenantOf_51 : decode cX7_tenantOf 51 = .ok (.return_, 1) := by decide +kernel
theorem dX7_readsItem_0 : decode cX7_readsItem 0 = .ok (.iload_n 1, 1) := by decide +kernel
theorem dX7_readsItem_1 : decode cX7_readsItem 1 = .ok (.lookupswitch 295 #[(98, 43), (102, 265), (107, 213), (116, 139)], 43) := by decide +kernel
theorem dX7_readsItem_44 : decode cX7_readsItem 44 = .ok (.aload_n 0, 1) := by decide +kernel
theorem dX7_readsItem_45 : decode cX7_readsItem 45 = .ok (.iconst 0, 1) := by decide +kernel
theorem dX7_readsItem_46 : decode cX7_readsItem 46 = .ok (.iconst 3, 1) := by decide +kernel
theorem dX7_readsItem_47 : decode cX7_readsItem 47 = .ok (.bipush 44, 2) := by decide +kernel
theorem dX7_readsItem_49 : decode cX7_readsItem 49 = .ok (.invokevirtual 73, 3) := by decide +kernel
theorem dX7_readsItem_52 : decode cX7_readsItem 52 = .ok (.istore_n 2, 1) := by decide +kernel
theorem dX7_readsItem_53 : decode cX7_readsItem 53 = .ok (.iload_n 2, 1) := by decide +kernel
theorem dX7_readsItem_54 : decode cX7_readsItem 54 = .ok (.ifCond .ge 7, 3) := by decide +kernel
theorem dX7_readsItem_57 : decode cX7_readsItem 57 = .ok (.iconst (-1), 1) := by decide +kernel
theorem dX7_readsItem_58 : decode cX7_readsItem 58 = .ok (.goto 12, 3) := by decide +kernel
theorem dX7_readsItem_61 : decode cX7_readsItem 61 = .ok (.aload_n 0, 1) := by decide +kernel
theorem dX7_readsItem_62 : decode cX7_readsItem 62 = .ok (.iconst 1, 1) := by decide +kernel
theorem dX7_readsItem_63 : decode cX7_readsItem 63 = .ok (.bipush 20, 2) := by decide +kernel
theorem dX7_readsItem_65 : decode cX7_readsItem 65 = .ok (.bipush 44, 2) := by decide +kernel
theorem dX7_readsItem_67 : decode cX7_readsItem 67 = .ok (.invokevirtual 73, 3) := by decide +kernel
theorem dX7_readsItem_70 : decode cX7_readsItem 70 = .ok (.istore_n 3, 1) := by decide +kernel
theorem dX7_readsItem_71 : decode cX7_readsItem 71 = .ok (.iload_n 3, 1) := by decide +kernel
theorem dX7_readsItem_72 : decode cX7_readsItem 72 = .ok (.ifCond .ge 7, 3) := by decide +kernel
theorem dX7_readsItem_75 : decode cX7_readsItem 75 = .ok (.iconst (-1), 1) := by decide +kernel
theorem dX7_readsItem_76 : decode cX7_readsItem 76 = .ok (.goto 12, 3) := by decide +kernel
theorem dX7_readsItem_79 : decode cX7_readsItem 79 = .ok (.aload_n 0, 1) := by decide +kernel
theorem dX7_readsItem_80 : decode cX7_readsItem 80 = .ok (.iconst 1, 1) := by decide +kernel
theorem dX7_readsItem_81 : decode cX7_readsItem 81 = .ok (.bipush 20, 2) := by decide +kernel
theorem dX7_readsItem_83 : decode cX7_readsItem 83 = .ok (.bipush 44, 2) := by decide +kernel
theorem dX7_readsItem_85 : decode cX7_readsItem 85 = .ok (.invokevirtual 73, 3) := by decide +kernel
theorem dX7_readsItem_88 : decode cX7_readsItem 88 = .ok (.istore 4, 2) := by decide +kernel
theorem dX7_readsItem_90 : decode cX7_readsItem 90 = .ok (.iload 4, 2) := by decide +kernel
theorem dX7_readsItem_92 : decode cX7_readsItem 92 = .ok (.ifCond .ge 7, 3) := by decide +kernel
theorem dX7_readsItem_95 : decode cX7_readsItem 95 = .ok (.iconst (-1), 1) := by decide +kernel
theorem dX7_readsItem_96 : decode cX7_readsItem 96 = .ok (.goto 12, 3) := by decide +kernel
theorem dX7_readsItem_99 : decode cX7_readsItem 99 = .ok (.aload_n 0, 1) := by decide +kernel
theorem dX7_readsItem_100 : decode cX7_readsItem 100 = .ok (.iconst 0, 1) := by decide +kernel
theorem dX7_readsItem_101 : decode cX7_readsItem 101 = .ok (.bipush 60, 2) := by decide +kernel
theorem dX7_readsItem_103 : decode cX7_readsItem 103 = .ok (.bipush 59, 2) := by decide +kernel
theorem dX7_readsItem_105 : decode cX7_readsItem 105 = .ok (.invokevirtual 73, 3) := by decide +kernel
theorem dX7_readsItem_108 : decode cX7_readsItem 108 = .ok (.istore 5, 2) := by decide +kernel
theorem dX7_readsItem_110 : decode cX7_readsItem 110 = .ok (.iload 5, 2) := by decide +kernel
theorem dX7_readsItem_112 : decode cX7_readsItem 112 = .ok (.ifCond .lt 14, 3) := by decide +kernel
theorem dX7_readsItem_115 : decode cX7_readsItem 115 = .ok (.aload_n 0, 1) := by decide +kernel
theorem dX7_readsItem_116 : decode cX7_readsItem 116 = .ok (.getfield 16, 3) := by decide +kernel
theorem dX7_readsItem_119 : decode cX7_readsItem 119 = .ok (.iconst 0, 1) := by decide +kernel
theorem dX7_readsItem_120 : decode cX7_readsItem 120 = .ok (.iaload, 1) := by decide +kernel
theorem dX7_readsItem_121 : decode cX7_readsItem 121 = .ok (.bipush 8, 2) := by decide +kernel
theorem dX7_readsItem_123 : decode cX7_readsItem 123 = .ok (.if_icmp .ne 5, 3) := by decide +kernel
theorem dX7_readsItem_126 : decode cX7_readsItem 126 = .ok (.iconst 0, 1) := by decide +kernel
theorem dX7_readsItem_127 : decode cX7_readsItem 127 = .ok (.ireturn, 1) := by decide +kernel
theorem dX7_readsItem_128 : decode cX7_readsItem 128 = .ok (.aload_n 0, 1) := by decide +kernel
theorem dX7_readsItem_129 : decode cX7_readsItem 129 = .ok (.iload_n 2, 1) := by decide +kernel
theorem dX7_readsItem_130 : decode cX7_readsItem 130 = .ok (.iload_n 3, 1) := by decide +kernel
theorem dX7_readsItem_131 : decode cX7_readsItem 131 = .ok (.iload 4, 2) := by decide +kernel
theorem dX7_readsItem_133 : decode cX7_readsItem 133 = .ok (.iload 5, 2) := by decide +kernel
theorem dX7_readsItem_135 : decode cX7_readsItem 135 = .ok (.invokevirtual 43, 3) := by decide +kernel
theorem dX7_readsItem_138 : decode cX7_readsItem 138 = .ok (.iconst 1, 1) := by decide +kernel
theorem dX7_readsItem_139 : decode cX7_readsItem 139 = .ok (.ireturn, 1) := by decide +kernel
theorem dX7_readsItem_140 : decode cX7_readsItem 140 = .ok (.aload_n 0, 1) := by decide +kernel
theorem dX7_readsItem_141 : decode cX7_readsItem 141 = .ok (.iconst 1, 1) := by decide +kernel
theorem dX7_readsItem_142 : decode cX7_readsItem 142 = .ok (.bipush 20, 2) := by decide +kernel
theorem dX7_readsItem_144 : decode cX7_readsItem 144 = .ok (.bipush 44, 2) := by decide +kernel
theorem dX7_readsItem_146 : decode cX7_readsItem 146 = .ok (.invokevirtual 73, 3) := by decide +kernel
theorem dX7_readsItem_149 : decode cX7_readsItem 149 = .ok (.istore_n 2, 1) := by decide +kernel
theorem dX7_readsItem_150 : decode cX7_readsItem 150 = .ok (.iload_n 2, 1) := by decide +kernel
theorem dX7_readsItem_151 : decode cX7_readsItem 151 = .ok (.ifCond .ge 7, 3) := by decide +kernel
theorem dX7_readsItem_154 : decode cX7_readsItem 154 = .ok (.iconst (-1), 1) := by decide +kernel
theorem dX7_readsItem_155 : decode cX7_readsItem 155 = .ok (.goto 12, 3) := by decide +kernel
theorem dX7_readsItem_158 : decode cX7_readsItem 158 = .ok (.aload_n 0, 1) := by decide +kernel
theorem dX7_readsItem_159 : decode cX7_readsItem 159 = .ok (.iconst 1, 1) := by decide +kernel
theorem dX7_readsItem_160 : decode cX7_readsItem 160 = .ok (.bipush 40, 2) := by decide +kernel
theorem dX7_readsItem_162 : decode cX7_readsItem 162 = .ok (.bipush 44, 2) := by decide +kernel
theorem dX7_readsItem_164 : decode cX7_readsItem 164 = .ok (.invokevirtual 73, 3) := by decide +kernel
theorem dX7_readsItem_167 : decode cX7_readsItem 167 = .ok (.istore_n 3, 1) := by decide +kernel
theorem dX7_readsItem_168 : decode cX7_readsItem 168 = .ok (.iload_n 3, 1) := by decide +kernel
theorem dX7_readsItem_169 : decode cX7_readsItem 169 = .ok (.ifCond .ge 7, 3) := by decide +kernel
theorem dX7_readsItem_172 : decode cX7_readsItem 172 = .ok (.iconst (-1), 1) := by decide +kernel
theorem dX7_readsItem_173 : decode cX7_readsItem 173 = .ok (.goto 12, 3) := by decide +kernel
theorem dX7_readsItem_176 : decode cX7_readsItem 176 = .ok (.aload_n 0, 1) := by decide +kernel
theorem dX7_readsItem_177 : decode cX7_readsItem 177 = .ok (.iconst 1, 1) := by decide +kernel
theorem dX7_readsItem_178 : decode cX7_readsItem 178 = .ok (.bipush 60, 2) := by decide +kernel
theorem dX7_readsItem_180 : decode cX7_readsItem 180 = .ok (.bipush 59, 2) := by decide +kernel
theorem dX7_readsItem_182 : decode cX7_readsItem 182 = .ok (.invokevirtual 73, 3) := by decide +kernel
theorem dX7_readsItem_185 : decode cX7_readsItem 185 = .ok (.istore 4, 2) := by decide +kernel
theorem dX7_readsItem_187 : decode cX7_readsItem 187 = .ok (.iload 4, 2) := by decide +kernel
theorem dX7_readsItem_189 : decode cX7_readsItem 189 = .ok (.ifCond .lt 13, 3) := by decide +kernel
theorem dX7_readsItem_192 : decode cX7_readsItem 192 = .ok (.aload_n 0, 1) := by decide +kernel
theorem dX7_readsItem_193 : decode cX7_readsItem 193 = .ok (.getfield 16, 3) := by decide +kernel
theorem dX7_readsItem_196 : decode cX7_readsItem 196 = .ok (.iconst 1, 1) := by decide +kernel
theorem dX7_readsItem_197 : decode cX7_readsItem 197 = .ok (.iaload, 1) := by decide +kernel
theorem dX7_readsItem_198 : decode cX7_readsItem 198 = .ok (.iconst 4, 1) := by decide +kernel
theorem dX7_readsItem_199 : decode cX7_readsItem 199 = .ok (.if_icmp .ne 5, 3) := by decide +kernel
theorem dX7_readsItem_202 : decode cX7_readsItem 202 = .ok (.iconst 0, 1) := by decide +kernel
theorem dX7_readsItem_203 : decode cX7_readsItem 203 = .ok (.ireturn, 1) := by decide +kernel
theorem dX7_readsItem_204 : decode cX7_readsItem 204 = .ok (.aload_n 0, 1) := by decide +kernel
theorem dX7_readsItem_205 : decode cX7_readsItem 205 = .ok (.iload_n 2, 1) := by decide +kernel
theorem dX7_readsItem_206 : decode cX7_readsItem 206 = .ok (.iload_n 3, 1) := by decide +kernel
theorem dX7_readsItem_207 : decode cX7_readsItem 207 = .ok (.iload 4, 2) := by decide +kernel
theorem dX7_readsItem_209 : decode cX7_readsItem 209 = .ok (.invokevirtual 47, 3) := by decide +kernel
theorem dX7_readsItem_212 : decode cX7_readsItem 212 = .ok (.iconst 1, 1) := by decide +kernel
theorem dX7_readsItem_213 : decode cX7_readsItem 213 = .ok (.ireturn, 1) := by decide +kernel
theorem dX7_readsItem_214 : decode cX7_readsItem 214 = .ok (.aload_n 0, 1) := by decide +kernel
theorem dX7_readsItem_215 : decode cX7_readsItem 215 = .ok (.iconst 1, 1) := by decide +kernel
theorem dX7_readsItem_216 : decode cX7_readsItem 216 = .ok (.bipush 20, 2) := by decide +kernel
theorem dX7_readsItem_218 : decode cX7_readsItem 218 = .ok (.bipush 44, 2) := by decide +kernel
theorem dX7_readsItem_220 : decode cX7_readsItem 220 = .ok (.invokevirtual 73, 3) := by decide +kernel
theorem dX7_readsItem_223 : decode cX7_readsItem 223 = .ok (.istore_n 2, 1) := by decide +kernel
theorem dX7_readsItem_224 : decode cX7_readsItem 224 = .ok (.iload_n 2, 1) := by decide +kernel
theorem dX7_readsItem_225 : decode cX7_readsItem 225 = .ok (.ifCond .ge 7, 3) := by decide +kernel
theorem dX7_readsItem_228 : decode cX7_readsItem 228 = .ok (.iconst (-1), 1) := by decide +kernel
theorem dX7_readsItem_229 : decode cX7_readsItem 229 = .ok (.goto 12, 3) := by decide +kernel
theorem dX7_readsItem_232 : decode cX7_readsItem 232 = .ok (.aload_n 0, 1) := by decide +kernel
theorem dX7_readsItem_233 : decode cX7_readsItem 233 = .ok (.iconst 1, 1) := by decide +kernel
theorem dX7_readsItem_234 : decode cX7_readsItem 234 = .ok (.bipush 9, 2) := by decide +kernel
theorem dX7_readsItem_236 : decode cX7_readsItem 236 = .ok (.bipush 59, 2) := by decide +kernel
theorem dX7_readsItem_238 : decode cX7_readsItem 238 = .ok (.invokevirtual 73, 3) := by decide +kernel
theorem dX7_readsItem_241 : decode cX7_readsItem 241 = .ok (.istore_n 3, 1) := by decide +kernel
theorem dX7_readsItem_242 : decode cX7_readsItem 242 = .ok (.aload_n 0, 1) := by decide +kernel
theorem dX7_readsItem_243 : decode cX7_readsItem 243 = .ok (.getfield 16, 3) := by decide +kernel
theorem dX7_readsItem_246 : decode cX7_readsItem 246 = .ok (.iconst 2, 1) := by decide +kernel
theorem dX7_readsItem_247 : decode cX7_readsItem 247 = .ok (.iload_n 2, 1) := by decide +kernel
theorem dX7_readsItem_248 : decode cX7_readsItem 248 = .ok (.iastore, 1) := by decide +kernel
theorem dX7_readsItem_249 : decode cX7_readsItem 249 = .ok (.aload_n 0, 1) := by decide +kernel
theorem dX7_readsItem_250 : decode cX7_readsItem 250 = .ok (.getfield 16, 3) := by decide +kernel
theorem dX7_readsItem_253 : decode cX7_readsItem 253 = .ok (.iconst 3, 1) := by decide +kernel
theorem dX7_readsItem_254 : decode cX7_readsItem 254 = .ok (.iload_n 3, 1) := by decide +kernel
theorem dX7_readsItem_255 : decode cX7_readsItem 255 = .ok (.iastore, 1) := by decide +kernel
theorem dX7_readsItem_256 : decode cX7_readsItem 256 = .ok (.iload_n 3, 1) := by decide +kernel
theorem dX7_readsItem_257 : decode cX7_readsItem 257 = .ok (.ifCond .le 7, 3) := by decide +kernel
theorem dX7_readsItem_260 : decode cX7_readsItem 260 = .ok (.iconst 1, 1) := by decide +kernel
theorem dX7_readsItem_261 : decode cX7_readsItem 261 = .ok (.goto 4, 3) := by decide +kernel
theorem dX7_readsItem_264 : decode cX7_readsItem 264 = .ok (.iconst 0, 1) := by decide +kernel
theorem dX7_readsItem_265 : decode cX7_readsItem 265 = .ok (.ireturn, 1) := by decide +kernel
theorem dX7_readsItem_266 : decode cX7_readsItem 266 = .ok (.aload_n 0, 1) := by decide +kernel
theorem dX7_readsItem_267 : decode cX7_readsItem 267 = .ok (.getfield 16, 3) := by decide +kernel
theorem dX7_readsItem_270 : decode cX7_readsItem 270 = .ok (.iconst 4, 1) := by decide +kernel
theorem dX7_readsItem_271 : decode cX7_readsItem 271 = .ok (.aload_n 0, 1) := by decide +kernel
theorem dX7_readsItem_272 : decode cX7_readsItem 272 = .ok (.iconst 1, 1) := by decide +kernel
theorem dX7_readsItem_273 : decode cX7_readsItem 273 = .ok (.bipush 30, 2) := by decide +kernel
theorem dX7_readsItem_275 : decode cX7_readsItem 275 = .ok (.bipush 59, 2) := by decide +kernel
theorem dX7_readsItem_277 : decode cX7_readsItem 277 = .ok (.invokevirtual 73, 3) := by decide +kernel
theorem dX7_readsItem_280 : decode cX7_readsItem 280 = .ok (.iastore, 1) := by decide +kernel
theorem dX7_readsItem_281 : decode cX7_readsItem 281 = .ok (.aload_n 0, 1) := by decide +kernel
theorem dX7_readsItem_282 : decode cX7_readsItem 282 = .ok (.getfield 16, 3) := by decide +kernel
theorem dX7_readsItem_285 : decode cX7_readsItem 285 = .ok (.iconst 4, 1) := by decide +kernel
theorem dX7_readsItem_286 : decode cX7_readsItem 286 = .ok (.iaload, 1) := by decide +kernel
theorem dX7_readsItem_287 : decode cX7_readsItem 287 = .ok (.ifCond .le 7, 3) := by decide +kernel
theorem dX7_readsItem_290 : decode cX7_readsItem 290 = .ok (.iconst 1, 1) := by decide +kernel
theorem dX7_readsItem_291 : decode cX7_readsItem 291 = .ok (.goto 4, 3) := by decide +kernel
theorem dX7_readsItem_294 : decode cX7_readsItem 294 = .ok (.iconst 0, 1) := by decide +kernel
theorem dX7_readsItem_295 : decode cX7_readsItem 295 = .ok (.ireturn, 1) := by decide +kernel
theorem dX7_readsItem_296 : decode cX7_readsItem 296 = .ok (.iconst 0, 1) := by decide +kernel
theorem dX7_readsItem_297 : decode cX7_readsItem 297 = .ok (.ireturn, 1) := by decide +kernel
theorem dX7_readsAll_0 : decode cX7_readsAll 0 = .ok (.aload_n 0, 1) := by decide +kernel
theorem dX7_readsAll_1 : decode cX7_readsAll 1 = .ok (.invokevirtual 40, 3) := by decide +kernel
theorem dX7_readsAll_4 : decode cX7_readsAll 4 = .ok (.aload_n 0, 1) := by decide +kernel
theorem dX7_readsAll_5 : decode cX7_readsAll 5 = .ok (.iconst 0, 1) := by decide +kernel
theorem dX7_readsAll_6 : decode cX7_readsAll 6 = .ok (.putfield 62, 3) := by decide +kernel
theorem dX7_readsAll_9 : decode cX7_readsAll 9 = .ok (.aload_n 0, 1) := by decide +kernel
theorem dX7_readsAll_10 : decode cX7_readsAll 10 = .ok (.getfield 62, 3) := by decide +kernel
theorem dX7_readsAll_13 : decode cX7_readsAll 13 = .ok (.aload_n 0, 1) := by decide +kernel
theorem dX7_readsAll_14 : decode cX7_readsAll 14 = .ok (.getfield 58, 3) := by decide +kernel
theorem dX7_readsAll_17 : decode cX7_readsAll 17 = .ok (.if_icmp .ge 36, 3) := by decide +kernel
theorem dX7_readsAll_20 : decode cX7_readsAll 20 = .ok (.aload_n 0, 1) := by decide +kernel
theorem dX7_readsAll_21 : decode cX7_readsAll 21 = .ok (.getfield 62, 3) := by decide +kernel
theorem dX7_readsAll_24 : decode cX7_readsAll 24 = .ok (.istore_n 1, 1) := by decide +kernel
theorem dX7_readsAll_25 : decode cX7_readsAll 25 = .ok (.aload_n 0, 1) := by decide +kernel
theorem dX7_readsAll_26 : decode cX7_readsAll 26 = .ok (.dup, 1) := by decide +kernel
theorem dX7_readsAll_27 : decode cX7_readsAll 27 = .ok (.getfield 62, 3) := by decide +kernel
theorem dX7_readsAll_30 : decode cX7_readsAll 30 = .ok (.iconst 1, 1) := by decide +kernel
theorem dX7_readsAll_31 : decode cX7_readsAll 31 = .ok (.iadd, 1) := by decide +kernel
theorem dX7_readsAll_32 : decode cX7_readsAll 32 = .ok (.putfield 62, 3) := by decide +kernel
theorem dX7_readsAll_35 : decode cX7_readsAll 35 = .ok (.aload_n 0, 1) := by decide +kernel
theorem dX7_readsAll_36 : decode cX7_readsAll 36 = .ok (.aload_n 0, 1) := by decide +kernel
theorem dX7_readsAll_37 : decode cX7_readsAll 37 = .ok (.getfield 7, 3) := by decide +kernel
theorem dX7_readsAll_40 : decode cX7_readsAll 40 = .ok (.iload_n 1, 1) := by decide +kernel
theorem dX7_readsAll_41 : decode cX7_readsAll 41 = .ok (.iaload, 1) := by decide +kernel
theorem dX7_readsAll_42 : decode cX7_readsAll 42 = .ok (.invokevirtual 77, 3) := by decide +kernel
theorem dX7_readsAll_45 : decode cX7_readsAll 45 = .ok (.ifCond .ne 5, 3) := by decide +kernel
theorem dX7_readsAll_48 : decode cX7_readsAll 48 = .ok (.iload_n 1, 1) := by decide +kernel
theorem dX7_readsAll_49 : decode cX7_readsAll 49 = .ok (.ireturn, 1) := by decide +kernel
theorem dX7_readsAll_50 : decode cX7_readsAll 50 = .ok (.goto (-41), 3) := by decide +kernel
theorem dX7_readsAll_53 : decode cX7_readsAll 53 = .ok (.bipush (-4), 2) := by decide +kernel
theorem dX7_readsAll_55 : decode cX7_readsAll 55 = .ok (.ireturn, 1) := by decide +kernel
theorem dX7_fault_0 : decode cX7_fault 0 = .ok (.aload_n 0, 1) := by decide +kernel
theorem dX7_fault_1 : decode cX7_fault 1 = .ok (.invokevirtual 80, 3) := by decide +kernel
theorem dX7_fault_4 : decode cX7_fault 4 = .ok (.ireturn, 1) := by decide +kernel
theorem dX7_lays_0 : decode cX7_lays 0 = .ok (.iconst 0, 1) := by decide +kernel
theorem dX7_lays_1 : decode cX7_lays 1 = .ok (.istore_n 1, 1) := by decide +kernel
theorem dX7_lays_2 : decode cX7_lays 2 = .ok (.iload_n 1, 1) := by decide +kernel
theorem dX7_lays_3 : decode cX7_lays 3 = .ok (.bipush 37, 2) := by decide +kernel
theorem dX7_lays_5 : decode cX7_lays 5 = .ok (.if_icmp .ge 21, 3) := by decide +kernel
theorem dX7_lays_8 : decode cX7_lays 8 = .ok (.aload_n 0, 1) := by decide +kernel
theorem dX7_lays_9 : decode cX7_lays 9 = .ok (.getfield 13, 3) := by decide +kernel
theorem dX7_lays_12 : decode cX7_lays 12 = .ok (.iload_n 1, 1) := by decide +kernel
theorem dX7_lays_13 : decode cX7_lays 13 = .ok (.aload_n 0, 1) := by decide +kernel
theorem dX7_lays_14 : decode cX7_lays 14 = .ok (.getfield 16, 3) := by decide +kernel
theorem dX7_lays_17 : decode cX7_lays 17 = .ok (.iload_n 1, 1) := by decide +kernel
theorem dX7_lays_18 : decode cX7_lays 18 = .ok (.iaload, 1) := by decide +kernel
theorem dX7_lays_19 : decode cX7_lays 19 = .ok (.iastore, 1) := by decide +kernel
theorem dX7_lays_20 : decode cX7_lays 20 = .ok (.iinc 1 1, 3) := by decide +kernel
theorem dX7_lays_23 : decode cX7_lays 23 = .ok (.goto (-21), 3) := by decide +kernel
theorem dX7_lays_26 : decode cX7_lays 26 = .ok (.iconst 0, 1) := by decide +kernel
theorem dX7_lays_27 : decode cX7_lays 27 = .ok (.istore_n 1, 1) := by decide +kernel
theorem dX7_lays_28 : decode cX7_lays 28 = .ok (.iload_n 1, 1) := by decide +kernel
theorem dX7_lays_29 : decode cX7_lays 29 = .ok (.bipush 29, 2) := by decide +kernel
theorem dX7_lays_31 : decode cX7_lays 31 = .ok (.if_icmp .ge 21, 3) := by decide +kernel
theorem dX7_lays_34 : decode cX7_lays 34 = .ok (.aload_n 0, 1) := by decide +kernel
theorem dX7_lays_35 : decode cX7_lays 35 = .ok (.getfield 22, 3) := by decide +kernel
theorem dX7_lays_38 : decode cX7_lays 38 = .ok (.iload_n 1, 1) := by decide +kernel
theorem dX7_lays_39 : decode cX7_lays 39 = .ok (.aload_n 0, 1) := by decide +kernel
theorem dX7_lays_40 : decode cX7_lays 40 = .ok (.getfield 19, 3) := by decide +kernel
theorem dX7_lays_43 : decode cX7_lays 43 = .ok (.iload_n 1, 1) := by decide +kernel
theorem dX7_lays_44 : decode cX7_lays 44 = .ok (.iaload, 1) := by decide +kernel
theorem dX7_lays_45 : decode cX7_lays 45 = .ok (.iastore, 1) := by decide +kernel
theorem dX7_lays_46 : decode cX7_lays 46 = .ok (.iinc 1 1, 3) := by decide +kernel
theorem dX7_lays_49 : decode cX7_lays 49 = .ok (.goto (-21), 3) := by decide +kernel
theorem dX7_lays_52 : decode cX7_lays 52 = .ok (.aload_n 0, 1) := by decide +kernel
theorem dX7_lays_53 : decode cX7_lays 53 = .ok (.iconst 0, 1) := by decide +kernel
theorem dX7_lays_54 : decode cX7_lays 54 = .ok (.putfield 84, 3) := by decide +kernel
theorem dX7_lays_57 : decode cX7_lays 57 = .ok (.aload_n 0, 1) := by decide +kernel
theorem dX7_lays_58 : decode cX7_lays 58 = .ok (.iconst 0, 1) := by decide +kernel
theorem dX7_lays_59 : decode cX7_lays 59 = .ok (.putfield 87, 3) := by decide +kernel
theorem dX7_lays_62 : decode cX7_lays 62 = .ok (.return_, 1) := by decide +kernel
theorem dX7_lay_0 : decode cX7_lay 0 = .ok (.aload_n 0, 1) := by decide +kernel
theorem dX7_lay_1 : decode cX7_lay 1 = .ok (.invokevirtual 80, 3) := by decide +kernel
theorem dX7_lay_4 : decode cX7_lay 4 = .ok (.bipush (-4), 2) := by decide +kernel
theorem dX7_lay_6 : decode cX7_lay 6 = .ok (.if_icmp .ne 21, 3) := by decide +kernel
theorem dX7_lay_9 : decode cX7_lay 9 = .ok (.aload_n 0, 1) := by decide +kernel
theorem dX7_lay_10 : decode cX7_lay 10 = .ok (.getfield 16, 3) := by decide +kernel
theorem dX7_lay_13 : decode cX7_lay 13 = .ok (.iconst 0, 1) := by decide +kernel
theorem dX7_lay_14 : decode cX7_lay 14 = .ok (.iaload, 1) := by decide +kernel
theorem dX7_lay_15 : decode cX7_lay 15 = .ok (.ifCond .eq 12, 3) := by decide +kernel
theorem dX7_lay_18 : decode cX7_lay 18 = .ok (.aload_n 0, 1) := by decide +kernel
theorem dX7_lay_19 : decode cX7_lay 19 = .ok (.getfield 16, 3) := by decide +kernel
theorem dX7_lay_22 : decode cX7_lay 22 = .ok (.iconst 1, 1) := by decide +kernel
theorem dX7_lay_23 : decode cX7_lay 23 = .ok (.iaload, 1) := by decide +kernel
theorem dX7_lay_24 : decode cX7_lay 24 = .ok (.ifCond .ne 6, 3) := by decide +kernel
theorem dX7_lay_27 : decode cX7_lay 27 = .ok (.bipush (-2), 2) := by decide +kernel
theorem dX7_lay_29 : decode cX7_lay 29 = .ok (.ireturn, 1) := by decide +kernel
theorem dX7_lay_30 : decode cX7_lay 30 = .ok (.aload_n 0, 1) := by decide +kernel
theorem dX7_lay_31 : decode cX7_lay 31 = .ok (.invokevirtual 51, 3) := by decide +kernel
theorem dX7_lay_34 : decode cX7_lay 34 = .ok (.aload_n 0, 1) := by decide +kernel
theorem dX7_lay_35 : decode cX7_lay 35 = .ok (.getfield 13, 3) := by decide +kernel
theorem dX7_lay_38 : decode cX7_lay 38 = .ok (.iconst 0, 1) := by decide +kernel
theorem dX7_lay_39 : decode cX7_lay 39 = .ok (.iaload, 1) := by decide +kernel
theorem dX7_lay_40 : decode cX7_lay 40 = .ok (.ireturn, 1) := by decide +kernel
theorem dX7_isDead_0 : decode cX7_isDead 0 = .ok (.iload_n 2, 1) := by decide +kernel
theorem dX7_isDead_1 : decode cX7_isDead 1 = .ok (.aload_n 0, 1) := by decide +kernel
theorem dX7_isDead_2 : decode cX7_isDead 2 = .ok (.getfield 22, 3) := by decide +kernel
theorem dX7_isDead_5 : decode cX7_isDead 5 = .ok (.iload_n 1, 1) := by decide +kernel
theorem dX7_isDead_6 : decode cX7_isDead 6 = .ok (.iaload, 1) := by decide +kernel
theorem dX7_isDead_7 : decode cX7_isDead 7 = .ok (.if_icmp .lt 7, 3) := by decide +kernel
theorem dX7_isDead_10 : decode cX7_isDead 10 = .ok (.iconst 1, 1) := by decide +kernel
theorem dX7_isDead_11 : decode cX7_isDead 11 = .ok (.goto 4, 3) := by decide +kernel
theorem dX7_isDead_14 : decode cX7_isDead 14 = .ok (.iconst 0, 1) := by decide +kernel
theorem dX7_isDead_15 : decode cX7_isDead 15 = .ok (.ireturn, 1) := by decide +kernel
theorem dX7_isFallen_0 : decode cX7_isFallen 0 = .ok (.iload_n 2, 1) := by decide +kernel
theorem dX7_isFallen_1 : decode cX7_isFallen 1 = .ok (.aload_n 0, 1) := by decide +kernel
theorem dX7_isFallen_2 : decode cX7_isFallen 2 = .ok (.getfield 22, 3) := by decide +kernel
theorem dX7_isFallen_5 : decode cX7_isFallen 5 = .ok (.iload_n 1, 1) := by decide +kernel
theorem dX7_isFallen_6 : decode cX7_isFallen 6 = .ok (.iaload, 1) := by decide +kernel
theorem dX7_isFallen_7 : decode cX7_isFallen 7 = .ok (.aload_n 0, 1) := by decide +kernel
theorem dX7_isFallen_8 : decode cX7_isFallen 8 = .ok (.getfield 13, 3) := by decide +kernel
theorem dX7_isFallen_11 : decode cX7_isFallen 11 = .ok (.iconst 4, 1) := by decide +kernel
theorem dX7_isFallen_12 : decode cX7_isFallen 12 = .ok (.iaload, 1) := by decide +kernel
theorem dX7_isFallen_13 : decode cX7_isFallen 13 = .ok (.iadd, 1) := by decide +kernel
theorem dX7_isFallen_14 : decode cX7_isFallen 14 = .ok (.if_icmp .lt 7, 3) := by decide +kernel
theorem dX7_isFallen_17 : decode cX7_isFallen 17 = .ok (.iconst 1, 1) := by decide +kernel
theorem dX7_isFallen_18 : decode cX7_isFallen 18 = .ok (.goto 4, 3) := by decide +kernel
theorem dX7_isFallen_21 : decode cX7_isFallen 21 = .ok (.iconst 0, 1) := by decide +kernel
theorem dX7_isFallen_22 : decode cX7_isFallen 22 = .ok (.ireturn, 1) := by decide +kernel
theorem dX7_bough_0 : decode cX7_bough 0 = .ok (.aload_n 0, 1) := by decide +kernel
theorem dX7_bough_1 : decode cX7_bough 1 = .ok (.iload_n 1, 1) := by decide +kernel
theorem dX7_bough_2 : decode cX7_bough 2 = .ok (.invokevirtual 90, 3) := by decide +kernel
theorem dX7_bough_5 : decode cX7_bough 5 = .ok (.ifCond .ne 5, 3) := by decide +kernel
theorem dX7_bough_8 : decode cX7_bough 8 = .ok (.iconst (-1), 1) := by decide +kernel
theorem dX7_bough_9 : decode cX7_bough 9 = .ok (.ireturn, 1) := by decide +kernel
theorem dX7_bough_10 : decode cX7_bough 10 = .ok (.iload_n 2, 1) := by decide +kernel
theorem dX7_bough_11 : decode cX7_bough 11 = .ok (.tableswitch 129 0 6 #[41, 50, 60, 70, 77, 98, 119], 41) := by decide +kernel
theorem dX7_bough_52 : decode cX7_bough 52 = .ok (.aload_n 0, 1) := by decide +kernel
theorem dX7_bough_53 : decode cX7_bough 53 = .ok (.getfield 13, 3) := by decide +kernel
theorem dX7_bough_56 : decode cX7_bough 56 = .ok (.iconst 5, 1) := by decide +kernel
theorem dX7_bough_57 : decode cX7_bough 57 = .ok (.iload_n 1, 1) := by decide +kernel
theorem dX7_bough_58 : decode cX7_bough 58 = .ok (.iadd, 1) := by decide +kernel
theorem dX7_bough_59 : decode cX7_bough 59 = .ok (.iaload, 1) := by decide +kernel
theorem dX7_bough_60 : decode cX7_bough 60 = .ok (.ireturn, 1) := by decide +kernel
theorem dX7_bough_61 : decode cX7_bough 61 = .ok (.aload_n 0, 1) := by decide +kernel
theorem dX7_bough_62 : decode cX7_bough 62 = .ok (.getfield 13, 3) := by decide +kernel
theorem dX7_bough_65 : decode cX7_bough 65 = .ok (.bipush 13, 2) := by decide +kernel
theorem dX7_bough_67 : decode cX7_bough 67 = .ok (.iload_n 1, 1) := by decide +kernel
theorem dX7_bough_68 : decode cX7_bough 68 = .ok (.iadd, 1) := by decide +kernel
theorem dX7_bough_69 : decode cX7_bough 69 = .ok (.iaload, 1) := by decide +kernel
theorem dX7_bough_70 : decode cX7_bough 70 = .ok (.ireturn, 1) := by decide +kernel
theorem dX7_bough_71 : decode cX7_bough 71 = .ok (.aload_n 0, 1) := by decide +kernel
theorem dX7_bough_72 : decode cX7_bough 72 = .ok (.getfield 13, 3) := by decide +kernel
theorem dX7_bough_75 : decode cX7_bough 75 = .ok (.bipush 21, 2) := by decide +kernel
theorem dX7_bough_77 : decode cX7_bough 77 = .ok (.iload_n 1, 1) := by decide +kernel
theorem dX7_bough_78 : decode cX7_bough 78 = .ok (.iadd, 1) := by decide +kernel
theorem dX7_bough_79 : decode cX7_bough 79 = .ok (.iaload, 1) := by decide +kernel
theorem dX7_bough_80 : decode cX7_bough 80 = .ok (.ireturn, 1) := by decide +kernel
theorem dX7_bough_81 : decode cX7_bough 81 = .ok (.aload_n 0, 1) := by decide +kernel
theorem dX7_bough_82 : decode cX7_bough 82 = .ok (.getfield 22, 3) := by decide +kernel
theorem dX7_bough_85 : decode cX7_bough 85 = .ok (.iload_n 1, 1) := by decide +kernel
theorem dX7_bough_86 : decode cX7_bough 86 = .ok (.iaload, 1) := by decide +kernel
theorem dX7_bough_87 : decode cX7_bough 87 = .ok (.ireturn, 1) := by decide +kernel
theorem dX7_bough_88 : decode cX7_bough 88 = .ok (.aload_n 0, 1) := by decide +kernel
theorem dX7_bough_89 : decode cX7_bough 89 = .ok (.iload_n 1, 1) := by decide +kernel
theorem dX7_bough_90 : decode cX7_bough 90 = .ok (.aload_n 0, 1) := by decide +kernel
theorem dX7_bough_91 : decode cX7_bough 91 = .ok (.getfield 22, 3) := by decide +kernel
theorem dX7_bough_94 : decode cX7_bough 94 = .ok (.bipush 28, 2) := by decide +kernel
theorem dX7_bough_96 : decode cX7_bough 96 = .ok (.iaload, 1) := by decide +kernel
theorem dX7_bough_97 : decode cX7_bough 97 = .ok (.invokevirtual 93, 3) := by decide +kernel
theorem dX7_bough_100 : decode cX7_bough 100 = .ok (.ifCond .eq 7, 3) := by decide +kernel
theorem dX7_bough_103 : decode cX7_bough 103 = .ok (.iconst 1, 1) := by decide +kernel
theorem dX7_bough_104 : decode cX7_bough 104 = .ok (.goto 4, 3) := by decide +kernel
theorem dX7_bough_107 : decode cX7_bough 107 = .ok (.iconst 0, 1) := by decide +kernel
theorem dX7_bough_108 : decode cX7_bough 108 = .ok (.ireturn, 1) := by decide +kernel
theorem dX7_bough_109 : decode cX7_bough 109 = .ok (.aload_n 0, 1) := by decide +kernel
theorem dX7_bough_110 : decode cX7_bough 110 = .ok (.iload_n 1, 1) := by decide +kernel
theorem dX7_bough_111 : decode cX7_bough 111 = .ok (.aload_n 0, 1) := by decide +kernel
theorem dX7_bough_112 : decode cX7_bough 112 = .ok (.getfield 22, 3) := by decide +kernel
theorem dX7_bough_115 : decode cX7_bough 115 = .ok (.bipush 28, 2) := by decide +kernel
theorem dX7_bough_117 : decode cX7_bough 117 = .ok (.iaload, 1) := by decide +kernel
theorem dX7_bough_118 : decode cX7_bough 118 = .ok (.invokevirtual 97, 3) := by decide +kernel
theorem dX7_bough_121 : decode cX7_bough 121 = .ok (.ifCond .eq 7, 3) := by decide +kernel
theorem dX7_bough_124 : decode cX7_bough 124 = .ok (.iconst 1, 1) := by decide +kernel
theorem dX7_bough_125 : decode cX7_bough 125 = .ok (.goto 4, 3) := by decide +kernel
theorem dX7_bough_128 : decode cX7_bough 128 = .ok (.iconst 0, 1) := by decide +kernel
theorem dX7_bough_129 : decode cX7_bough 129 = .ok (.ireturn, 1) := by decide +kernel
theorem dX7_bough_130 : decode cX7_bough 130 = .ok (.aload_n 0, 1) := by decide +kernel
theorem dX7_bough_131 : decode cX7_bough 131 = .ok (.getfield 22, 3) := by decide +kernel
theorem dX7_bough_134 : decode cX7_bough 134 = .ok (.bipush 8, 2) := by decide +kernel
theorem dX7_bough_136 : decode cX7_bough 136 = .ok (.iload_n 1, 1) := by decide +kernel
theorem dX7_bough_137 : decode cX7_bough 137 = .ok (.iadd, 1) := by decide +kernel
theorem dX7_bough_138 : decode cX7_bough 138 = .ok (.iaload, 1) := by decide +kernel
theorem dX7_bough_139 : decode cX7_bough 139 = .ok (.ireturn, 1) := by decide +kernel
theorem dX7_bough_140 : decode cX7_bough 140 = .ok (.iconst (-1), 1) := by decide +kernel
theorem dX7_bough_141 : decode cX7_bough 141 = .ok (.ireturn, 1) := by decide +kernel
theorem dX7_isWarm_0 : decode cX7_isWarm 0 = .ok (.aload_n 0, 1) := by decide +kernel
theorem dX7_isWarm_1 : decode cX7_isWarm 1 = .ok (.getfield 22, 3) := by decide +kernel
theorem dX7_isWarm_4 : decode cX7_isWarm 4 = .ok (.bipush 20, 2) := by decide +kernel
theorem dX7_isWarm_6 : decode cX7_isWarm 6 = .ok (.iload_n 1, 1) := by decide +kernel
theorem dX7_isWarm_7 : decode cX7_isWarm 7 = .ok (.iadd, 1) := by decide +kernel
theorem dX7_isWarm_8 : decode cX7_isWarm 8 = .ok (.iaload, 1) := by decide +kernel
theorem dX7_isWarm_9 : decode cX7_isWarm 9 = .ok (.aload_n 0, 1) := by decide +kernel
theorem dX7_isWarm_10 : decode cX7_isWarm 10 = .ok (.getfield 13, 3) := by decide +kernel
theorem dX7_isWarm_13 : decode cX7_isWarm 13 = .ok (.bipush 33, 2) := by decide +kernel
theorem dX7_isWarm_15 : decode cX7_isWarm 15 = .ok (.iload_n 1, 1) := by decide +kernel
theorem dX7_isWarm_16 : decode cX7_isWarm 16 = .ok (.iadd, 1) := by decide +kernel
theorem dX7_isWarm_17 : decode cX7_isWarm 17 = .ok (.iaload, 1) := by decide +kernel
theorem dX7_isWarm_18 : decode cX7_isWarm 18 = .ok (.if_icmp .lt 7, 3) := by decide +kernel
theorem dX7_isWarm_21 : decode cX7_isWarm 21 = .ok (.iconst 1, 1) := by decide +kernel
theorem dX7_isWarm_22 : decode cX7_isWarm 22 = .ok (.goto 4, 3) := by decide +kernel
theorem dX7_isWarm_25 : decode cX7_isWarm 25 = .ok (.iconst 0, 1) := by decide +kernel
theorem dX7_isWarm_26 : decode cX7_isWarm 26 = .ok (.ireturn, 1) := by decide +kernel
theorem dX7_tenant_0 : decode cX7_tenant 0 = .ok (.aload_n 0, 1) := by decide +kernel
theorem dX7_tenant_1 : decode cX7_tenant 1 = .ok (.iload_n 1, 1) := by decide +kernel
theorem dX7_tenant_2 : decode cX7_tenant 2 = .ok (.invokevirtual 100, 3) := by decide +kernel
theorem dX7_tenant_5 : decode cX7_tenant 5 = .ok (.ifCond .ne 5, 3) := by decide +kernel
theorem dX7_tenant_8 : decode cX7_tenant 8 = .ok (.iconst (-1), 1) := by decide +kernel
theorem dX7_tenant_9 : decode cX7_tenant 9 = .ok (.ireturn, 1) := by decide +kernel
theorem dX7_tenant_10 : decode cX7_tenant 10 = .ok (.iload_n 2, 1) := by decide +kernel
theorem dX7_tenant_11 : decode cX7_tenant 11 = .ok (.tableswitch 101 0 5 #[37, 47, 57, 67, 77, 87], 37) := by decide +kernel
theorem dX7_tenant_48 : decode cX7_tenant 48 = .ok (.aload_n 0, 1) := by decide +kernel
theorem dX7_tenant_49 : decode cX7_tenant 49 = .ok (.getfield 22, 3) := by decide +kernel
theorem dX7_tenant_52 : decode cX7_tenant 52 = .ok (.bipush 16, 2) := by decide +kernel
theorem dX7_tenant_54 : decode cX7_tenant 54 = .ok (.iload_n 1, 1) := by decide +kernel
theorem dX7_tenant_55 : decode cX7_tenant 55 = .ok (.iadd, 1) := by decide +kernel
theorem dX7_tenant_56 : decode cX7_tenant 56 = .ok (.iaload, 1) := by decide +kernel
theorem dX7_tenant_57 : decode cX7_tenant 57 = .ok (.ireturn, 1) := by decide +kernel
theorem dX7_tenant_58 : decode cX7_tenant 58 = .ok (.aload_n 0, 1) := by decide +kernel
theorem dX7_tenant_59 : decode cX7_tenant 59 = .ok (.getfield 13, 3) := by decide +kernel
theorem dX7_tenant_62 : decode cX7_tenant 62 = .ok (.bipush 29, 2) := by decide +kernel
theorem dX7_tenant_64 : decode cX7_tenant 64 = .ok (.iload_n 1, 1) := by decide +kernel
theorem dX7_tenant_65 : decode cX7_tenant 65 = .ok (.iadd, 1) := by decide +kernel
theorem dX7_tenant_66 : decode cX7_tenant 66 = .ok (.iaload, 1) := by decide +kernel
theorem dX7_tenant_67 : decode cX7_tenant 67 = .ok (.ireturn, 1) := by decide +kernel
theorem dX7_tenant_68 : decode cX7_tenant 68 = .ok (.aload_n 0, 1) := by decide +kernel
theorem dX7_tenant_69 : decode cX7_tenant 69 = .ok (.getfield 13, 3) := by decide +kernel
theorem dX7_tenant_72 : decode cX7_tenant 72 = .ok (.bipush 33, 2) := by decide +kernel
theorem dX7_tenant_74 : decode cX7_tenant 74 = .ok (.iload_n 1, 1) := by decide +kernel
theorem dX7_tenant_75 : decode cX7_tenant 75 = .ok (.iadd, 1) := by decide +kernel
theorem dX7_tenant_76 : decode cX7_tenant 76 = .ok (.iaload, 1) := by decide +kernel
theorem dX7_tenant_77 : decode cX7_tenant 77 = .ok (.ireturn, 1) := by decide +kernel
theorem dX7_tenant_78 : decode cX7_tenant 78 = .ok (.aload_n 0, 1) := by decide +kernel
theorem dX7_tenant_79 : decode cX7_tenant 79 = .ok (.getfield 22, 3) := by decide +kernel
theorem dX7_tenant_82 : decode cX7_tenant 82 = .ok (.bipush 20, 2) := by decide +kernel
theorem dX7_tenant_84 : decode cX7_tenant 84 = .ok (.iload_n 1, 1) := by decide +kernel
theorem dX7_tenant_85 : decode cX7_tenant 85 = .ok (.iadd, 1) := by decide +kernel
theorem dX7_tenant_86 : decode cX7_tenant 86 = .ok (.iaload, 1) := by decide +kernel
theorem dX7_tenant_87 : decode cX7_tenant 87 = .ok (.ireturn, 1) := by decide +kernel
theorem dX7_tenant_88 : decode cX7_tenant 88 = .ok (.aload_n 0, 1) := by decide +kernel
theorem dX7_tenant_89 : decode cX7_tenant 89 = .ok (.getfield 22, 3) := by decide +kernel
theorem dX7_tenant_92 : decode cX7_tenant 92 = .ok (.bipush 24, 2) := by decide +kernel
theorem dX7_tenant_94 : decode cX7_tenant 94 = .ok (.iload_n 1, 1) := by decide +kernel
theorem dX7_tenant_95 : decode cX7_tenant 95 = .ok (.iadd, 1) := by decide +kernel
theorem dX7_tenant_96 : decode cX7_tenant 96 = .ok (.iaload, 1) := by decide +kernel
theorem dX7_tenant_97 : decode cX7_tenant 97 = .ok (.ireturn, 1) := by decide +kernel
theorem dX7_tenant_98 : decode cX7_tenant 98 = .ok (.aload_n 0, 1) := by decide +kernel
theorem dX7_tenant_99 : decode cX7_tenant 99 = .ok (.iload_n 1, 1) := by decide +kernel
theorem dX7_tenant_100 : decode cX7_tenant 100 = .ok (.invokevirtual 103, 3) := by decide +kernel
theorem dX7_tenant_103 : decode cX7_tenant 103 = .ok (.ifCond .eq 7, 3) := by decide +kernel
theorem dX7_tenant_106 : decode cX7_tenant 106 = .ok (.iconst 1, 1) := by decide +kernel
theorem dX7_tenant_107 : decode cX7_tenant 107 = .ok (.goto 4, 3) := by decide +kernel
theorem dX7_tenant_110 : decode cX7_tenant 110 = .ok (.iconst 0, 1) := by decide +kernel
theorem dX7_tenant_111 : decode cX7_tenant 111 = .ok (.ireturn, 1) := by decide +kernel
theorem dX7_tenant_112 : decode cX7_tenant 112 = .ok (.iconst (-1), 1) := by decide +kernel
theorem dX7_tenant_113 : decode cX7_tenant 113 = .ok (.ireturn, 1) := by decide +kernel
theorem dX7_could_0 : decode cX7_could 0 = .ok (.aload_n 0, 1) := by decide +kernel
theorem dX7_could_1 : decode cX7_could 1 = .ok (.getfield 13, 3) := by decide +kernel
theorem dX7_could_4 : decode cX7_could 4 = .ok (.iconst 5, 1) := by decide +kernel
theorem dX7_could_5 : decode cX7_could 5 = .ok (.iload_n 2, 1) := by decide +kernel
theorem dX7_could_6 : decode cX7_could 6 = .ok (.iadd, 1) := by decide +kernel
theorem dX7_could_7 : decode cX7_could 7 = .ok (.iaload, 1) := by decide +kernel
theorem dX7_could_8 : decode cX7_could 8 = .ok (.istore 5, 2) := by decide +kernel
theorem dX7_could_10 : decode cX7_could 10 = .ok (.aload_n 0, 1) := by decide +kernel
theorem dX7_could_11 : decode cX7_could 11 = .ok (.getfield 22, 3) := by decide +kernel
theorem dX7_could_14 : decode cX7_could 14 = .ok (.bipush 16, 2) := by decide +kernel
theorem dX7_could_16 : decode cX7_could 16 = .ok (.iload_n 1, 1) := by decide +kernel
theorem dX7_could_17 : decode cX7_could 17 = .ok (.iadd, 1) := by decide +kernel
theorem dX7_could_18 : decode cX7_could 18 = .ok (.iaload, 1) := by decide +kernel
theorem dX7_could_19 : decode cX7_could 19 = .ok (.istore 6, 2) := by decide +kernel
theorem dX7_could_21 : decode cX7_could 21 = .ok (.aload_n 0, 1) := by decide +kernel
theorem dX7_could_22 : decode cX7_could 22 = .ok (.getfield 13, 3) := by decide +kernel
theorem dX7_could_25 : decode cX7_could 25 = .ok (.bipush 13, 2) := by decide +kernel
theorem dX7_could_27 : decode cX7_could 27 = .ok (.iload_n 2, 1) := by decide +kernel
theorem dX7_could_28 : decode cX7_could 28 = .ok (.iadd, 1) := by decide +kernel
theorem dX7_could_29 : decode cX7_could 29 = .ok (.iaload, 1) := by decide +kernel
theorem dX7_could_30 : decode cX7_could 30 = .ok (.istore 7, 2) := by decide +kernel
theorem dX7_could_32 : decode cX7_could 32 = .ok (.iload 5, 2) := by decide +kernel
theorem dX7_could_34 : decode cX7_could 34 = .ok (.ifCond .ne 18, 3) := by decide +kernel
theorem dX7_could_37 : decode cX7_could 37 = .ok (.iload 7, 2) := by decide +kernel
theorem dX7_could_39 : decode cX7_could 39 = .ok (.iload 6, 2) := by decide +kernel
theorem dX7_could_41 : decode cX7_could 41 = .ok (.if_icmp .gt 7, 3) := by decide +kernel
theorem dX7_could_44 : decode cX7_could 44 = .ok (.iconst 1, 1) := by decide +kernel
theorem dX7_could_45 : decode cX7_could 45 = .ok (.goto 41, 3) := by decide +kernel
theorem dX7_could_48 : decode cX7_could 48 = .ok (.iconst 0, 1) := by decide +kernel
theorem dX7_could_49 : decode cX7_could 49 = .ok (.goto 37, 3) := by decide +kernel
theorem dX7_could_52 : decode cX7_could 52 = .ok (.iload 5, 2) := by decide +kernel
theorem dX7_could_54 : decode cX7_could 54 = .ok (.iconst 2, 1) := by decide +kernel
theorem dX7_could_55 : decode cX7_could 55 = .ok (.if_icmp .ne 20, 3) := by decide +kernel
theorem dX7_could_58 : decode cX7_could 58 = .ok (.iload 7, 2) := by decide +kernel
theorem dX7_could_60 : decode cX7_could 60 = .ok (.iconst 3, 1) := by decide +kernel
theorem dX7_could_61 : decode cX7_could 61 = .ok (.iadd, 1) := by decide +kernel
theorem dX7_could_62 : decode cX7_could 62 = .ok (.iload 6, 2) := by decide +kernel
theorem dX7_could_64 : decode cX7_could 64 = .ok (.if_icmp .gt 7, 3) := by decide +kernel
theorem dX7_could_67 : decode cX7_could 67 = .ok (.iconst 1, 1) := by decide +kernel
theorem dX7_could_68 : decode cX7_could 68 = .ok (.goto 18, 3) := by decide +kernel
theorem dX7_could_71 : decode cX7_could 71 = .ok (.iconst 0, 1) := by decide +kernel
theorem dX7_could_72 : decode cX7_could 72 = .ok (.goto 14, 3) := by decide +kernel
theorem dX7_could_75 : decode cX7_could 75 = .ok (.iload 5, 2) := by decide +kernel
theorem dX7_could_77 : decode cX7_could 77 = .ok (.iconst 3, 1) := by decide +kernel
theorem dX7_could_78 : decode cX7_could 78 = .ok (.if_icmp .ne 7, 3) := by decide +kernel
theorem dX7_could_81 : decode cX7_could 81 = .ok (.iconst 1, 1) := by decide +kernel
theorem dX7_could_82 : decode cX7_could 82 = .ok (.goto 4, 3) := by decide +kernel
theorem dX7_could_85 : decode cX7_could 85 = .ok (.iconst 0, 1) := by decide +kernel
theorem dX7_could_86 : decode cX7_could 86 = .ok (.istore 8, 2) := by decide +kernel
theorem dX7_could_88 : decode cX7_could 88 = .ok (.aload_n 0, 1) := by decide +kernel
theorem dX7_could_89 : decode cX7_could 89 = .ok (.iload_n 2, 1) := by decide +kernel
theorem dX7_could_90 : decode cX7_could 90 = .ok (.iload_n 3, 1) := by decide +kernel
theorem dX7_could_91 : decode cX7_could 91 = .ok (.invokevirtual 93, 3) := by decide +kernel
theorem dX7_could_94 : decode cX7_could 94 = .ok (.ifCond .eq 45, 3) := by decide +kernel
theorem dX7_could_97 : decode cX7_could 97 = .ok (.iload 8, 2) := by decide +kernel
theorem dX7_could_99 : decode cX7_could 99 = .ok (.ifCond .ne 12, 3) := by decide +kernel
theorem dX7_could_102 : decode cX7_could 102 = .ok (.aload_n 0, 1) := by decide +kernel
theorem dX7_could_103 : decode cX7_could 103 = .ok (.iload_n 2, 1) := by decide +kernel
theorem dX7_could_104 : decode cX7_could 104 = .ok (.iload_n 3, 1) := by decide +kernel
theorem dX7_could_105 : decode cX7_could 105 = .ok (.invokevirtual 97, 3) := by decide +kernel
theorem dX7_could_108 : decode cX7_could 108 = .ok (.ifCond .eq 31, 3) := by decide +kernel
theorem dX7_could_111 : decode cX7_could 111 = .ok (.iload 4, 2) := by decide +kernel
theorem dX7_could_113 : decode cX7_could 113 = .ok (.aload_n 0, 1) := by decide +kernel
theorem dX7_could_114 : decode cX7_could 114 = .ok (.getfield 13, 3) := by decide +kernel
theorem dX7_could_117 : decode cX7_could 117 = .ok (.bipush 21, 2) := by decide +kernel
theorem dX7_could_119 : decode cX7_could 119 = .ok (.iload_n 2, 1) := by decide +kernel
theorem dX7_could_120 : decode cX7_could 120 = .ok (.iadd, 1) := by decide +kernel
theorem dX7_could_121 : decode cX7_could 121 = .ok (.iaload, 1) := by decide +kernel
theorem dX7_could_122 : decode cX7_could 122 = .ok (.iadd, 1) := by decide +kernel
theorem dX7_could_123 : decode cX7_could 123 = .ok (.aload_n 0, 1) := by decide +kernel
theorem dX7_could_124 : decode cX7_could 124 = .ok (.getfield 13, 3) := by decide +kernel
theorem dX7_could_127 : decode cX7_could 127 = .ok (.bipush 29, 2) := by decide +kernel
theorem dX7_could_129 : decode cX7_could 129 = .ok (.iload_n 1, 1) := by decide +kernel
theorem dX7_could_130 : decode cX7_could 130 = .ok (.iadd, 1) := by decide +kernel
theorem dX7_could_131 : decode cX7_could 131 = .ok (.iaload, 1) := by decide +kernel
theorem dX7_could_132 : decode cX7_could 132 = .ok (.if_icmp .gt 7, 3) := by decide +kernel
theorem dX7_could_135 : decode cX7_could 135 = .ok (.iconst 1, 1) := by decide +kernel
theorem dX7_could_136 : decode cX7_could 136 = .ok (.goto 4, 3) := by decide +kernel
theorem dX7_could_139 : decode cX7_could 139 = .ok (.iconst 0, 1) := by decide +kernel
theorem dX7_could_140 : decode cX7_could 140 = .ok (.ireturn, 1) := by decide +kernel
theorem dX7_canNow_0 : decode cX7_canNow 0 = .ok (.aload_n 0, 1) := by decide +kernel
theorem dX7_canNow_1 : decode cX7_canNow 1 = .ok (.getfield 22, 3) := by decide +kernel
theorem dX7_canNow_4 : decode cX7_canNow 4 = .ok (.bipush 8, 2) := by decide +kernel
theorem dX7_canNow_6 : decode cX7_canNow 6 = .ok (.iload_n 2, 1) := by decide +kernel
theorem dX7_canNow_7 : decode cX7_canNow 7 = .ok (.iadd, 1) := by decide +kernel
theorem dX7_canNow_8 : decode cX7_canNow 8 = .ok (.iaload, 1) := by decide +kernel
theorem dX7_canNow_9 : decode cX7_canNow 9 = .ok (.ifCond .ne 32, 3) := by decide +kernel
theorem dX7_canNow_12 : decode cX7_canNow 12 = .ok (.aload_n 0, 1) := by decide +kernel
theorem dX7_canNow_13 : decode cX7_canNow 13 = .ok (.iload_n 1, 1) := by decide +kernel
theorem dX7_canNow_14 : decode cX7_canNow 14 = .ok (.iload_n 2, 1) := by decide +kernel
theorem dX7_canNow_15 : decode cX7_canNow 15 = .ok (.aload_n 0, 1) := by decide +kernel
theorem dX7_canNow_16 : decode cX7_canNow 16 = .ok (.getfield 22, 3) := by decide +kernel
theorem dX7_canNow_19 : decode cX7_canNow 19 = .ok (.bipush 28, 2) := by decide +kernel
theorem dX7_canNow_21 : decode cX7_canNow 21 = .ok (.iaload, 1) := by decide +kernel
theorem dX7_canNow_22 : decode cX7_canNow 22 = .ok (.aload_n 0, 1) := by decide +kernel
theorem dX7_canNow_23 : decode cX7_canNow 23 = .ok (.getfield 22, 3) := by decide +kernel
theorem dX7_canNow_26 : decode cX7_canNow 26 = .ok (.bipush 24, 2) := by decide +kernel
theorem dX7_canNow_28 : decode cX7_canNow 28 = .ok (.iload_n 1, 1) := by decide +kernel
theorem dX7_canNow_29 : decode cX7_canNow 29 = .ok (.iadd, 1) := by decide +kernel
theorem dX7_canNow_30 : decode cX7_canNow 30 = .ok (.iaload, 1) := by decide +kernel
theorem dX7_canNow_31 : decode cX7_canNow 31 = .ok (.invokevirtual 106, 3) := by decide +kernel
theorem dX7_canNow_34 : decode cX7_canNow 34 = .ok (.ifCond .eq 7, 3) := by decide +kernel
theorem dX7_canNow_37 : decode cX7_canNow 37 = .ok (.iconst 1, 1) := by decide +kernel
theorem dX7_canNow_38 : decode cX7_canNow 38 = .ok (.goto 4, 3) := by decide +kernel
theorem dX7_canNow_41 : decode cX7_canNow 41 = .ok (.iconst 0, 1) := by decide +kernel
theorem dX7_canNow_42 : decode cX7_canNow 42 = .ok (.ireturn, 1) := by decide +kernel
theorem dX7_keeps_0 : decode cX7_keeps 0 = .ok (.aload_n 0, 1) := by decide +kernel
theorem dX7_keeps_1 : decode cX7_keeps 1 = .ok (.getfield 84, 3) := by decide +kernel
theorem dX7_keeps_4 : decode cX7_keeps 4 = .ok (.bipush 8, 2) := by decide +kernel
theorem dX7_keeps_6 : decode cX7_keeps 6 = .ok (.if_icmp .ne 43, 3) := by decide +kernel
theorem dX7_keeps_9 : decode cX7_keeps 9 = .ok (.iconst 0, 1) := by decide +kernel
theorem dX7_keeps_10 : decode cX7_keeps 10 = .ok (.istore_n 1, 1) := by decide +kernel
theorem dX7_keeps_11 : decode cX7_keeps 11 = .ok (.iload_n 1, 1) := by decide +kernel
theorem dX7_keeps_12 : decode cX7_keeps 12 = .ok (.sipush 203, 3) := by decide +kernel
theorem dX7_keeps_15 : decode cX7_keeps 15 = .ok (.if_icmp .ge 24, 3) := by decide +kernel
theorem dX7_keeps_18 : decode cX7_keeps 18 = .ok (.aload_n 0, 1) := by decide +kernel
theorem dX7_keeps_19 : decode cX7_keeps 19 = .ok (.getfield 25, 3) := by decide +kernel
theorem dX7_keeps_22 : decode cX7_keeps 22 = .ok (.iload_n 1, 1) := by decide +kernel
theorem dX7_keeps_23 : decode cX7_keeps 23 = .ok (.aload_n 0, 1) := by decide +kernel
theorem dX7_keeps_24 : decode cX7_keeps 24 = .ok (.getfield 25, 3) := by decide +kernel
theorem dX7_keeps_27 : decode cX7_keeps 27 = .ok (.iload_n 1, 1) := by decide +kernel
theorem dX7_keeps_28 : decode cX7_keeps 28 = .ok (.bipush 29, 2) := by decide +kernel
theorem dX7_keeps_30 : decode cX7_keeps 30 = .ok (.iadd, 1) := by decide +kernel
theorem dX7_keeps_31 : decode cX7_keeps 31 = .ok (.iaload, 1) := by decide +kernel
theorem dX7_keeps_32 : decode cX7_keeps 32 = .ok (.iastore, 1) := by decide +kernel
theorem dX7_keeps_33 : decode cX7_keeps 33 = .ok (.iinc 1 1, 3) := by decide +kernel
theorem dX7_keeps_36 : decode cX7_keeps 36 = .ok (.goto (-25), 3) := by decide +kernel
theorem dX7_keeps_39 : decode cX7_keeps 39 = .ok (.aload_n 0, 1) := by decide +kernel
theorem dX7_keeps_40 : decode cX7_keeps 40 = .ok (.dup, 1) := by decide +kernel
theorem dX7_keeps_41 : decode cX7_keeps 41 = .ok (.getfield 84, 3) := by decide +kernel
theorem dX7_keeps_44 : decode cX7_keeps 44 = .ok (.iconst 1, 1) := by decide +kernel
theorem dX7_keeps_45 : decode cX7_keeps 45 = .ok (.isub, 1) := by decide +kernel
theorem dX7_keeps_46 : decode cX7_keeps 46 = .ok (.putfield 84, 3) := by decide +kernel
theorem dX7_keeps_49 : decode cX7_keeps 49 = .ok (.iconst 0, 1) := by decide +kernel
theorem dX7_keeps_50 : decode cX7_keeps 50 = .ok (.istore_n 1, 1) := by decide +kernel
theorem dX7_keeps_51 : decode cX7_keeps 51 = .ok (.iload_n 1, 1) := by decide +kernel
theorem dX7_keeps_52 : decode cX7_keeps 52 = .ok (.bipush 29, 2) := by decide +kernel
theorem dX7_keeps_54 : decode cX7_keeps 54 = .ok (.if_icmp .ge 29, 3) := by decide +kernel
theorem dX7_keeps_57 : decode cX7_keeps 57 = .ok (.aload_n 0, 1) := by decide +kernel
theorem dX7_keeps_58 : decode cX7_keeps 58 = .ok (.getfield 25, 3) := by decide +kernel
theorem dX7_keeps_61 : decode cX7_keeps 61 = .ok (.bipush 29, 2) := by decide +kernel
theorem dX7_keeps_63 : decode cX7_keeps 63 = .ok (.aload_n 0, 1) := by decide +kernel
theorem dX7_keeps_64 : decode cX7_keeps 64 = .ok (.getfield 84, 3) := by decide +kernel
theorem dX7_keeps_67 : decode cX7_keeps 67 = .ok (.imul, 1) := by decide +kernel
theorem dX7_keeps_68 : decode cX7_keeps 68 = .ok (.iload_n 1, 1) := by decide +kernel
theorem dX7_keeps_69 : decode cX7_keeps 69 = .ok (.iadd, 1) := by decide +kernel
theorem dX7_keeps_70 : decode cX7_keeps 70 = .ok (.aload_n 0, 1) := by decide +kernel
theorem dX7_keeps_71 : decode cX7_keeps 71 = .ok (.getfield 22, 3) := by decide +kernel
theorem dX7_keeps_74 : decode cX7_keeps 74 = .ok (.iload_n 1, 1) := by decide +kernel
theorem dX7_keeps_75 : decode cX7_keeps 75 = .ok (.iaload, 1) := by decide +kernel
theorem dX7_keeps_76 : decode cX7_keeps 76 = .ok (.iastore, 1) := by decide +kernel
theorem dX7_keeps_77 : decode cX7_keeps 77 = .ok (.iinc 1 1, 3) := by decide +kernel
theorem dX7_keeps_80 : decode cX7_keeps 80 = .ok (.goto (-29), 3) := by decide +kernel
theorem dX7_keeps_83 : decode cX7_keeps 83 = .ok (.aload_n 0, 1) := by decide +kernel
theorem dX7_keeps_84 : decode cX7_keeps 84 = .ok (.dup, 1) := by decide +kernel
theorem dX7_keeps_85 : decode cX7_keeps 85 = .ok (.getfield 84, 3) := by decide +kernel
theorem dX7_keeps_88 : decode cX7_keeps 88 = .ok (.iconst 1, 1) := by decide +kernel
theorem dX7_keeps_89 : decode cX7_keeps 89 = .ok (.iadd, 1) := by decide +kernel
theorem dX7_keeps_90 : decode cX7_keeps 90 = .ok (.putfield 84, 3) := by decide +kernel
theorem dX7_keeps_93 : decode cX7_keeps 93 = .ok (.return_, 1) := by decide +kernel
theorem dX7_can_0 : decode cX7_can 0 = .ok (.aload_n 0, 1) := by decide +kernel
theorem dX7_can_1 : decode cX7_can 1 = .ok (.iload_n 1, 1) := by decide +kernel
theorem dX7_can_2 : decode cX7_can 2 = .ok (.invokevirtual 100, 3) := by decide +kernel
theorem dX7_can_5 : decode cX7_can 5 = .ok (.ifCond .eq 11, 3) := by decide +kernel
theorem dX7_can_8 : decode cX7_can 8 = .ok (.aload_n 0, 1) := by decide +kernel
theorem dX7_can_9 : decode cX7_can 9 = .ok (.iload_n 2, 1) := by decide +kernel
theorem dX7_can_10 : decode cX7_can 10 = .ok (.invokevirtual 90, 3) := by decide +kernel
theorem dX7_can_13 : decode cX7_can 13 = .ok (.ifCond .ne 7, 3) := by decide +kernel
theorem dX7_can_16 : decode cX7_can 16 = .ok (.iconst (-1), 1) := by decide +kernel
theorem dX7_can_17 : decode cX7_can 17 = .ok (.goto 17, 3) := by decide +kernel
theorem dX7_can_20 : decode cX7_can 20 = .ok (.aload_n 0, 1) := by decide +kernel
theorem dX7_can_21 : decode cX7_can 21 = .ok (.iload_n 1, 1) := by decide +kernel
theorem dX7_can_22 : decode cX7_can 22 = .ok (.iload_n 2, 1) := by decide +kernel
theorem dX7_can_23 : decode cX7_can 23 = .ok (.invokevirtual 110, 3) := by decide +kernel
theorem dX7_can_26 : decode cX7_can 26 = .ok (.ifCond .eq 7, 3) := by decide +kernel
theorem dX7_can_29 : decode cX7_can 29 = .ok (.iconst 1, 1) := by decide +kernel
theorem dX7_can_30 : decode cX7_can 30 = .ok (.goto 4, 3) := by decide +kernel
theorem dX7_can_33 : decode cX7_can 33 = .ok (.iconst 0, 1) := by decide +kernel
theorem dX7_can_34 : decode cX7_can 34 = .ok (.ireturn, 1) := by decide +kernel
theorem dX7_takes_0 : decode cX7_takes 0 = .ok (.aload_n 0, 1) := by decide +kernel
theorem dX7_takes_1 : decode cX7_takes 1 = .ok (.getfield 22, 3) := by decide +kernel
theorem dX7_takes_4 : decode cX7_takes 4 = .ok (.bipush 8, 2) := by decide +kernel
theorem dX7_takes_6 : decode cX7_takes 6 = .ok (.iload_n 2, 1) := by decide +kernel
theorem dX7_takes_7 : decode cX7_takes 7 = .ok (.iadd, 1) := by decide +kernel
theorem dX7_takes_8 : decode cX7_takes 8 = .ok (.iconst 1, 1) := by decide +kernel
theorem dX7_takes_9 : decode cX7_takes 9 = .ok (.iastore, 1) := by decide +kernel
theorem dX7_takes_10 : decode cX7_takes 10 = .ok (.aload_n 0, 1) := by decide +kernel
theorem dX7_takes_11 : decode cX7_takes 11 = .ok (.getfield 22, 3) := by decide +kernel
theorem dX7_takes_14 : decode cX7_takes 14 = .ok (.bipush 24, 2) := by decide +kernel
theorem dX7_takes_16 : decode cX7_takes 16 = .ok (.iload_n 1, 1) := by decide +kernel
theorem dX7_takes_17 : decode cX7_takes 17 = .ok (.iadd, 1) := by decide +kernel
theorem dX7_takes_18 : decode cX7_takes 18 = .ok (.dup2, 1) := by decide +kernel
theorem dX7_takes_19 : decode cX7_takes 19 = .ok (.iaload, 1) := by decide +kernel
theorem dX7_takes_20 : decode cX7_takes 20 = .ok (.aload_n 0, 1) := by decide +kernel
theorem dX7_takes_21 : decode cX7_takes 21 = .ok (.getfield 13, 3) := by decide +kernel
theorem dX7_takes_24 : decode cX7_takes 24 = .ok (.bipush 21, 2) := by decide +kernel
theorem dX7_takes_26 : decode cX7_takes 26 = .ok (.iload_n 2, 1) := by decide +kernel
theorem dX7_takes_27 : decode cX7_takes 27 = .ok (.iadd, 1) := by decide +kernel
theorem dX7_takes_28 : decode cX7_takes 28 = .ok (.iaload, 1) := by decide +kernel
theorem dX7_takes_29 : decode cX7_takes 29 = .ok (.iadd, 1) := by decide +kernel
theorem dX7_takes_30 : decode cX7_takes 30 = .ok (.iastore, 1) := by decide +kernel
theorem dX7_takes_31 : decode cX7_takes 31 = .ok (.aload_n 0, 1) := by decide +kernel
theorem dX7_takes_32 : decode cX7_takes 32 = .ok (.getfield 22, 3) := by decide +kernel
theorem dX7_takes_35 : decode cX7_takes 35 = .ok (.bipush 20, 2) := by decide +kernel
theorem dX7_takes_37 : decode cX7_takes 37 = .ok (.iload_n 1, 1) := by decide +kernel
theorem dX7_takes_38 : decode cX7_takes 38 = .ok (.iadd, 1) := by decide +kernel
theorem dX7_takes_39 : decode cX7_takes 39 = .ok (.dup2, 1) := by decide +kernel
theorem dX7_takes_40 : decode cX7_takes 40 = .ok (.iaload, 1) := by decide +kernel
theorem dX7_takes_41 : decode cX7_takes 41 = .ok (.aload_n 0, 1) := by decide +kernel
theorem dX7_takes_42 : decode cX7_takes 42 = .ok (.getfield 13, 3) := by decide +kernel
theorem dX7_takes_45 : decode cX7_takes 45 = .ok (.bipush 21, 2) := by decide +kernel
theorem dX7_takes_47 : decode cX7_takes 47 = .ok (.iload_n 2, 1) := by decide +kernel
theorem dX7_takes_48 : decode cX7_takes 48 = .ok (.iadd, 1) := by decide +kernel
theorem dX7_takes_49 : decode cX7_takes 49 = .ok (.iaload, 1) := by decide +kernel
theorem dX7_takes_50 : decode cX7_takes 50 = .ok (.iadd, 1) := by decide +kernel
theorem dX7_takes_51 : decode cX7_takes 51 = .ok (.iastore, 1) := by decide +kernel
theorem dX7_takes_52 : decode cX7_takes 52 = .ok (.return_, 1) := by decide +kernel
theorem dX7_take_0 : decode cX7_take 0 = .ok (.aload_n 0, 1) := by decide +kernel
theorem dX7_take_1 : decode cX7_take 1 = .ok (.iload_n 1, 1) := by decide +kernel
theorem dX7_take_2 : decode cX7_take 2 = .ok (.invokevirtual 100, 3) := by decide +kernel
theorem dX7_take_5 : decode cX7_take 5 = .ok (.ifCond .eq 11, 3) := by decide +kernel
theorem dX7_take_8 : decode cX7_take 8 = .ok (.aload_n 0, 1) := by decide +kernel
theorem dX7_take_9 : decode cX7_take 9 = .ok (.iload_n 2, 1) := by decide +kernel
theorem dX7_take_10 : decode cX7_take 10 = .ok (.invokevirtual 90, 3) := by decide +kernel
theorem dX7_take_13 : decode cX7_take 13 = .ok (.ifCond .ne 5, 3) := by decide +kernel
theorem dX7_take_16 : decode cX7_take 16 = .ok (.iconst (-1), 1) := by decide +kernel
theorem dX7_take_17 : decode cX7_take 17 = .ok (.ireturn, 1) := by decide +kernel
theorem dX7_take_18 : decode cX7_take 18 = .ok (.aload_n 0, 1) := by decide +kernel
theorem dX7_take_19 : decode cX7_take 19 = .ok (.iload_n 1, 1) := by decide +kernel
theorem dX7_take_20 : decode cX7_take 20 = .ok (.iload_n 2, 1) := by decide +kernel
theorem dX7_take_21 : decode cX7_take 21 = .ok (.invokevirtual 110, 3) := by decide +kernel
theorem dX7_take_24 : decode cX7_take 24 = .ok (.ifCond .ne 6, 3) := by decide +kernel
theorem dX7_take_27 : decode cX7_take 27 = .ok (.bipush (-2), 2) := by decide +kernel
theorem dX7_take_29 : decode cX7_take 29 = .ok (.ireturn, 1) := by decide +kernel
theorem dX7_take_30 : decode cX7_take 30 = .ok (.aload_n 0, 1) := by decide +kernel
theorem dX7_take_31 : decode cX7_take 31 = .ok (.invokevirtual 113, 3) := by decide +kernel
theorem dX7_take_34 : decode cX7_take 34 = .ok (.aload_n 0, 1) := by decide +kernel
theorem dX7_take_35 : decode cX7_take 35 = .ok (.iload_n 1, 1) := by decide +kernel
theorem dX7_take_36 : decode cX7_take 36 = .ok (.iload_n 2, 1) := by decide +kernel
theorem dX7_take_37 : decode cX7_take 37 = .ok (.invokevirtual 116, 3) := by decide +kernel
theorem dX7_take_40 : decode cX7_take 40 = .ok (.aload_n 0, 1) := by decide +kernel
theorem dX7_take_41 : decode cX7_take 41 = .ok (.iload_n 2, 1) := by decide +kernel
theorem dX7_take_42 : decode cX7_take 42 = .ok (.aload_n 0, 1) := by decide +kernel
theorem dX7_take_43 : decode cX7_take 43 = .ok (.getfield 22, 3) := by decide +kernel
theorem dX7_take_46 : decode cX7_take 46 = .ok (.bipush 28, 2) := by decide +kernel
theorem dX7_take_48 : decode cX7_take 48 = .ok (.iaload, 1) := by decide +kernel
theorem dX7_take_49 : decode cX7_take 49 = .ok (.invokevirtual 97, 3) := by decide +kernel
theorem dX7_take_52 : decode cX7_take 52 = .ok (.ifCond .ne 54, 3) := by decide +kernel
theorem dX7_take_55 : decode cX7_take 55 = .ok (.aload_n 0, 1) := by decide +kernel
theorem dX7_take_56 : decode cX7_take 56 = .ok (.getfield 13, 3) := by decide +kernel
theorem dX7_take_59 : decode cX7_take 59 = .ok (.iconst 5, 1) := by decide +kernel
theorem dX7_take_60 : decode cX7_take 60 = .ok (.iload_n 2, 1) := by decide +kernel
theorem dX7_take_61 : decode cX7_take 61 = .ok (.iadd, 1) := by decide +kernel
theorem dX7_take_62 : decode cX7_take 62 = .ok (.iaload, 1) := by decide +kernel
theorem dX7_take_63 : decode cX7_take 63 = .ok (.iconst 3, 1) := by decide +kernel
theorem dX7_take_64 : decode cX7_take 64 = .ok (.if_icmp .eq 42, 3) := by decide +kernel
theorem dX7_take_67 : decode cX7_take 67 = .ok (.aload_n 0, 1) := by decide +kernel
theorem dX7_take_68 : decode cX7_take 68 = .ok (.getfield 22, 3) := by decide +kernel
theorem dX7_take_71 : decode cX7_take 71 = .ok (.bipush 28, 2) := by decide +kernel
theorem dX7_take_73 : decode cX7_take 73 = .ok (.iaload, 1) := by decide +kernel
theorem dX7_take_74 : decode cX7_take 74 = .ok (.aload_n 0, 1) := by decide +kernel
theorem dX7_take_75 : decode cX7_take 75 = .ok (.getfield 13, 3) := by decide +kernel
theorem dX7_take_78 : decode cX7_take 78 = .ok (.iconst 3, 1) := by decide +kernel
theorem dX7_take_79 : decode cX7_take 79 = .ok (.iaload, 1) := by decide +kernel
theorem dX7_take_80 : decode cX7_take 80 = .ok (.irem, 1) := by decide +kernel
theorem dX7_take_81 : decode cX7_take 81 = .ok (.ifCond .ne 25, 3) := by decide +kernel
theorem dX7_take_84 : decode cX7_take 84 = .ok (.aload_n 0, 1) := by decide +kernel
theorem dX7_take_85 : decode cX7_take 85 = .ok (.getfield 22, 3) := by decide +kernel
theorem dX7_take_88 : decode cX7_take 88 = .ok (.bipush 16, 2) := by decide +kernel
theorem dX7_take_90 : decode cX7_take 90 = .ok (.iload_n 1, 1) := by decide +kernel
theorem dX7_take_91 : decode cX7_take 91 = .ok (.iadd, 1) := by decide +kernel
theorem dX7_take_92 : decode cX7_take 92 = .ok (.iaload, 1) := by decide +kernel
theorem dX7_take_93 : decode cX7_take 93 = .ok (.aload_n 0, 1) := by decide +kernel
theorem dX7_take_94 : decode cX7_take 94 = .ok (.getfield 13, 3) := by decide +kernel
theorem dX7_take_97 : decode cX7_take 97 = .ok (.iconst 2, 1) := by decide +kernel
theorem dX7_take_98 : decode cX7_take 98 = .ok (.iaload, 1) := by decide +kernel
theorem dX7_take_99 : decode cX7_take 99 = .ok (.if_icmp .le 7, 3) := by decide +kernel
theorem dX7_take_102 : decode cX7_take 102 = .ok (.iconst 1, 1) := by decide +kernel
theorem dX7_take_103 : decode cX7_take 103 = .ok (.goto 4, 3) := by decide +kernel
theorem dX7_take_106 : decode cX7_take 106 = .ok (.iconst 0, 1) := by decide +kernel
theorem dX7_take_107 : decode cX7_take 107 = .ok (.istore_n 3, 1) := by decide +kernel
theorem dX7_take_108 : decode cX7_take 108 = .ok (.aload_n 0, 1) := by decide +kernel
theorem dX7_take_109 : decode cX7_take 109 = .ok (.getfield 22, 3) := by decide +kernel
theorem dX7_take_112 : decode cX7_take 112 = .ok (.bipush 20, 2) := by decide +kernel
theorem dX7_take_114 : decode cX7_take 114 = .ok (.iload_n 1, 1) := by decide +kernel
theorem dX7_take_115 : decode cX7_take 115 = .ok (.iadd, 1) := by decide +kernel
theorem dX7_take_116 : decode cX7_take 116 = .ok (.iload_n 3, 1) := by decide +kernel
theorem dX7_take_117 : decode cX7_take 117 = .ok (.ifCond .eq 7, 3) := by decide +kernel
theorem dX7_take_120 : decode cX7_take 120 = .ok (.iconst 0, 1) := by decide +kernel
theorem dX7_take_121 : decode cX7_take 121 = .ok (.goto 12, 3) := by decide +kernel
theorem dX7_take_124 : decode cX7_take 124 = .ok (.aload_n 0, 1) := by decide +kernel
theorem dX7_take_125 : decode cX7_take 125 = .ok (.getfield 22, 3) := by decide +kernel
theorem dX7_take_128 : decode cX7_take 128 = .ok (.bipush 20, 2) := by decide +kernel
theorem dX7_take_130 : decode cX7_take 130 = .ok (.iload_n 1, 1) := by decide +kernel
theorem dX7_take_131 : decode cX7_take 131 = .ok (.iadd, 1) := by decide +kernel
theorem dX7_take_132 : decode cX7_take 132 = .ok (.iaload, 1) := by decide +kernel
theorem dX7_take_133 : decode cX7_take 133 = .ok (.iastore, 1) := by decide +kernel
theorem dX7_take_134 : decode cX7_take 134 = .ok (.aload_n 0, 1) := by decide +kernel
theorem dX7_take_135 : decode cX7_take 135 = .ok (.getfield 22, 3) := by decide +kernel
theorem dX7_take_138 : decode cX7_take 138 = .ok (.bipush 20, 2) := by decide +kernel
theorem dX7_take_140 : decode cX7_take 140 = .ok (.iload_n 1, 1) := by decide +kernel
theorem dX7_take_141 : decode cX7_take 141 = .ok (.iadd, 1) := by decide +kernel
theorem dX7_take_142 : decode cX7_take 142 = .ok (.iaload, 1) := by decide +kernel
theorem dX7_take_143 : decode cX7_take 143 = .ok (.ireturn, 1) := by decide +kernel
theorem dX7_passes_0 : decode cX7_passes 0 = .ok (.aload_n 0, 1) := by decide +kernel
theorem dX7_passes_1 : decode cX7_passes 1 = .ok (.getfield 22, 3) := by decide +kernel
theorem dX7_passes_4 : decode cX7_passes 4 = .ok (.bipush 28, 2) := by decide +kernel
theorem dX7_passes_6 : decode cX7_passes 6 = .ok (.dup2, 1) := by decide +kernel
theorem dX7_passes_7 : decode cX7_passes 7 = .ok (.iaload, 1) := by decide +kernel
theorem dX7_passes_8 : decode cX7_passes 8 = .ok (.iconst 1, 1) := by decide +kernel
theorem dX7_passes_9 : decode cX7_passes 9 = .ok (.iadd, 1) := by decide +kernel
theorem dX7_passes_10 : decode cX7_passes 10 = .ok (.iastore, 1) := by decide +kernel
theorem dX7_passes_11 : decode cX7_passes 11 = .ok (.iconst 0, 1) := by decide +kernel
theorem dX7_passes_12 : decode cX7_passes 12 = .ok (.istore_n 1, 1) := by decide +kernel
theorem dX7_passes_13 : decode cX7_passes 13 = .ok (.iload_n 1, 1) := by decide +kernel
theorem dX7_passes_14 : decode cX7_passes 14 = .ok (.iconst 4, 1) := by decide +kernel
theorem dX7_passes_15 : decode cX7_passes 15 = .ok (.if_icmp .ge 19, 3) := by decide +kernel
theorem dX7_passes_18 : decode cX7_passes 18 = .ok (.aload_n 0, 1) := by decide +kernel
theorem dX7_passes_19 : decode cX7_passes 19 = .ok (.getfield 22, 3) := by decide +kernel
theorem dX7_passes_22 : decode cX7_passes 22 = .ok (.bipush 24, 2) := by decide +kernel
theorem dX7_passes_24 : decode cX7_passes 24 = .ok (.iload_n 1, 1) := by decide +kernel
theorem dX7_passes_25 : decode cX7_passes 25 = .ok (.iadd, 1) := by decide +kernel
theorem dX7_passes_26 : decode cX7_passes 26 = .ok (.iconst 0, 1) := by decide +kernel
theorem dX7_passes_27 : decode cX7_passes 27 = .ok (.iastore, 1) := by decide +kernel
theorem dX7_passes_28 : decode cX7_passes 28 = .ok (.iinc 1 1, 3) := by decide +kernel
theorem dX7_passes_31 : decode cX7_passes 31 = .ok (.goto (-18), 3) := by decide +kernel
theorem dX7_passes_34 : decode cX7_passes 34 = .ok (.return_, 1) := by decide +kernel
theorem dX7_pass_0 : decode cX7_pass 0 = .ok (.iload_n 1, 1) := by decide +kernel
theorem dX7_pass_1 : decode cX7_pass 1 = .ok (.iconst 1, 1) := by decide +kernel
theorem dX7_pass_2 : decode cX7_pass 2 = .ok (.bipush 30, 2) := by decide +kernel
theorem dX7_pass_4 : decode cX7_pass 4 = .ok (.invokestatic 54, 3) := by decide +kernel
theorem dX7_pass_7 : decode cX7_pass 7 = .ok (.ifCond .ne 5, 3) := by decide +kernel
theorem dX7_pass_10 : decode cX7_pass 10 = .ok (.iconst (-1), 1) := by decide +kernel
theorem dX7_pass_11 : decode cX7_pass 11 = .ok (.ireturn, 1) := by decide +kernel
theorem dX7_pass_12 : decode cX7_pass 12 = .ok (.aload_n 0, 1) := by decide +kernel
theorem dX7_pass_13 : decode cX7_pass 13 = .ok (.getfield 22, 3) := by decide +kernel
theorem dX7_pass_16 : decode cX7_pass 16 = .ok (.bipush 28, 2) := by decide +kernel
theorem dX7_pass_18 : decode cX7_pass 18 = .ok (.iaload, 1) := by decide +kernel
theorem dX7_pass_19 : decode cX7_pass 19 = .ok (.iload_n 1, 1) := by decide +kernel
theorem dX7_pass_20 : decode cX7_pass 20 = .ok (.iadd, 1) := by decide +kernel
theorem dX7_pass_21 : decode cX7_pass 21 = .ok (.bipush 99, 2) := by decide +kernel
theorem dX7_pass_23 : decode cX7_pass 23 = .ok (.if_icmp .le 6, 3) := by decide +kernel
theorem dX7_pass_26 : decode cX7_pass 26 = .ok (.bipush (-2), 2) := by decide +kernel
theorem dX7_pass_28 : decode cX7_pass 28 = .ok (.ireturn, 1) := by decide +kernel
theorem dX7_pass_29 : decode cX7_pass 29 = .ok (.aload_n 0, 1) := by decide +kernel
theorem dX7_pass_30 : decode cX7_pass 30 = .ok (.invokevirtual 113, 3) := by decide +kernel
theorem dX7_pass_33 : decode cX7_pass 33 = .ok (.iconst 0, 1) := by decide +kernel
theorem dX7_pass_34 : decode cX7_pass 34 = .ok (.istore_n 2, 1) := by decide +kernel
theorem dX7_pass_35 : decode cX7_pass 35 = .ok (.iload_n 2, 1) := by decide +kernel
theorem dX7_pass_36 : decode cX7_pass 36 = .ok (.iload_n 1, 1) := by decide +kernel
theorem dX7_pass_37 : decode cX7_pass 37 = .ok (.if_icmp .ge 13, 3) := by decide +kernel
theorem dX7_pass_40 : decode cX7_pass 40 = .ok (.aload_n 0, 1) := by decide +kernel
theorem dX7_pass_41 : decode cX7_pass 41 = .ok (.invokevirtual 120, 3) := by decide +kernel
theorem dX7_pass_44 : decode cX7_pass 44 = .ok (.iinc 2 1, 3) := by decide +kernel
theorem dX7_pass_47 : decode cX7_pass 47 = .ok (.goto (-12), 3) := by decide +kernel
theorem dX7_pass_50 : decode cX7_pass 50 = .ok (.aload_n 0, 1) := by decide +kernel
theorem dX7_pass_51 : decode cX7_pass 51 = .ok (.getfield 22, 3) := by decide +kernel
theorem dX7_pass_54 : decode cX7_pass 54 = .ok (.bipush 28, 2) := by decide +kernel
theorem dX7_pass_56 : decode cX7_pass 56 = .ok (.iaload, 1) := by decide +kernel
theorem dX7_pass_57 : decode cX7_pass 57 = .ok (.ireturn, 1) := by decide +kernel
theorem dX7_hook_0 : decode cX7_hook 0 = .ok (.aload_n 0, 1) := by decide +kernel
theorem dX7_hook_1 : decode cX7_hook 1 = .ok (.iload_n 1, 1) := by decide +kernel
theorem dX7_hook_2 : decode cX7_hook 2 = .ok (.invokevirtual 100, 3) := by decide +kernel
theorem dX7_hook_5 : decode cX7_hook 5 = .ok (.ifCond .eq 13, 3) := by decide +kernel
theorem dX7_hook_8 : decode cX7_hook 8 = .ok (.iload_n 2, 1) := by decide +kernel
theorem dX7_hook_9 : decode cX7_hook 9 = .ok (.iconst 1, 1) := by decide +kernel
theorem dX7_hook_10 : decode cX7_hook 10 = .ok (.bipush 20, 2) := by decide +kernel
theorem dX7_hook_12 : decode cX7_hook 12 = .ok (.invokestatic 54, 3) := by decide +kernel
theorem dX7_hook_15 : decode cX7_hook 15 = .ok (.ifCond .ne 5, 3) := by decide +kernel
theorem dX7_hook_18 : decode cX7_hook 18 = .ok (.iconst (-1), 1) := by decide +kernel
theorem dX7_hook_19 : decode cX7_hook 19 = .ok (.ireturn, 1) := by decide +kernel
theorem dX7_hook_20 : decode cX7_hook 20 = .ok (.aload_n 0, 1) := by decide +kernel
theorem dX7_hook_21 : decode cX7_hook 21 = .ok (.invokevirtual 113, 3) := by decide +kernel
theorem dX7_hook_24 : decode cX7_hook 24 = .ok (.aload_n 0, 1) := by decide +kernel
theorem dX7_hook_25 : decode cX7_hook 25 = .ok (.getfield 22, 3) := by decide +kernel
theorem dX7_hook_28 : decode cX7_hook 28 = .ok (.bipush 16, 2) := by decide +kernel
theorem dX7_hook_30 : decode cX7_hook 30 = .ok (.iload_n 1, 1) := by decide +kernel
theorem dX7_hook_31 : decode cX7_hook 31 = .ok (.iadd, 1) := by decide +kernel
theorem dX7_hook_32 : decode cX7_hook 32 = .ok (.iaload, 1) := by decide +kernel
theorem dX7_hook_33 : decode cX7_hook 33 = .ok (.istore_n 3, 1) := by decide +kernel
theorem dX7_hook_34 : decode cX7_hook 34 = .ok (.aload_n 0, 1) := by decide +kernel
theorem dX7_hook_35 : decode cX7_hook 35 = .ok (.getfield 22, 3) := by decide +kernel
theorem dX7_hook_38 : decode cX7_hook 38 = .ok (.bipush 16, 2) := by decide +kernel
theorem dX7_hook_40 : decode cX7_hook 40 = .ok (.iload_n 1, 1) := by decide +kernel
theorem dX7_hook_41 : decode cX7_hook 41 = .ok (.iadd, 1) := by decide +kernel
theorem dX7_hook_42 : decode cX7_hook 42 = .ok (.iload_n 2, 1) := by decide +kernel
theorem dX7_hook_43 : decode cX7_hook 43 = .ok (.iastore, 1) := by decide +kernel
theorem dX7_hook_44 : decode cX7_hook 44 = .ok (.iload_n 3, 1) := by decide +kernel
theorem dX7_hook_45 : decode cX7_hook 45 = .ok (.ireturn, 1) := by decide +kernel
theorem dX7_ring_0 : decode cX7_ring 0 = .ok (.aload_n 0, 1) := by decide +kernel
theorem dX7_ring_1 : decode cX7_ring 1 = .ok (.iload_n 1, 1) := by decide +kernel
theorem dX7_ring_2 : decode cX7_ring 2 = .ok (.invokevirtual 90, 3) := by decide +kernel
theorem dX7_ring_5 : decode cX7_ring 5 = .ok (.ifCond .ne 5, 3) := by decide +kernel
theorem dX7_ring_8 : decode cX7_ring 8 = .ok (.iconst (-1), 1) := by decide +kernel
theorem dX7_ring_9 : decode cX7_ring 9 = .ok (.ireturn, 1) := by decide +kernel
theorem dX7_ring_10 : decode cX7_ring 10 = .ok (.aload_n 0, 1) := by decide +kernel
theorem dX7_ring_11 : decode cX7_ring 11 = .ok (.iload_n 1, 1) := by decide +kernel
theorem dX7_ring_12 : decode cX7_ring 12 = .ok (.aload_n 0, 1) := by decide +kernel
theorem dX7_ring_13 : decode cX7_ring 13 = .ok (.getfield 22, 3) := by decide +kernel
theorem dX7_ring_16 : decode cX7_ring 16 = .ok (.bipush 28, 2) := by decide +kernel
theorem dX7_ring_18 : decode cX7_ring 18 = .ok (.iaload, 1) := by decide +kernel
theorem dX7_ring_19 : decode cX7_ring 19 = .ok (.invokevirtual 93, 3) := by decide +kernel
theorem dX7_ring_22 : decode cX7_ring 22 = .ok (.ifCond .ne 16, 3) := by decide +kernel
theorem dX7_ring_25 : decode cX7_ring 25 = .ok (.aload_n 0, 1) := by decide +kernel
theorem dX7_ring_26 : decode cX7_ring 26 = .ok (.getfield 22, 3) := by decide +kernel
theorem dX7_ring_29 : decode cX7_ring 29 = .ok (.bipush 8, 2) := by decide +kernel
theorem dX7_ring_31 : decode cX7_ring 31 = .ok (.iload_n 1, 1) := by decide +kernel
theorem dX7_ring_32 : decode cX7_ring 32 = .ok (.iadd, 1) := by decide +kernel
theorem dX7_ring_33 : decode cX7_ring 33 = .ok (.iaload, 1) := by decide +kernel
theorem dX7_ring_34 : decode cX7_ring 34 = .ok (.iconst 1, 1) := by decide +kernel
theorem dX7_ring_35 : decode cX7_ring 35 = .ok (.if_icmp .ne 6, 3) := by decide +kernel
theorem dX7_ring_38 : decode cX7_ring 38 = .ok (.bipush (-2), 2) := by decide +kernel
theorem dX7_ring_40 : decode cX7_ring 40 = .ok (.ireturn, 1) := by decide +kernel
theorem dX7_ring_41 : decode cX7_ring 41 = .ok (.aload_n 0, 1) := by decide +kernel
theorem dX7_ring_42 : decode cX7_ring 42 = .ok (.invokevirtual 113, 3) := by decide +kernel
theorem dX7_ring_45 : decode cX7_ring 45 = .ok (.aload_n 0, 1) := by decide +kernel
theorem dX7_ring_46 : decode cX7_ring 46 = .ok (.getfield 22, 3) := by decide +kernel
theorem dX7_ring_49 : decode cX7_ring 49 = .ok (.iload_n 1, 1) := by decide +kernel
theorem dX7_ring_50 : decode cX7_ring 50 = .ok (.iaload, 1) := by decide +kernel
theorem dX7_ring_51 : decode cX7_ring 51 = .ok (.istore_n 2, 1) := by decide +kernel
theorem dX7_ring_52 : decode cX7_ring 52 = .ok (.aload_n 0, 1) := by decide +kernel
theorem dX7_ring_53 : decode cX7_ring 53 = .ok (.getfield 22, 3) := by decide +kernel
theorem dX7_ring_56 : decode cX7_ring 56 = .ok (.iload_n 1, 1) := by decide +kernel
theorem dX7_ring_57 : decode cX7_ring 57 = .ok (.aload_n 0, 1) := by decide +kernel
theorem dX7_ring_58 : decode cX7_ring 58 = .ok (.getfield 22, 3) := by decide +kernel
theorem dX7_ring_61 : decode cX7_ring 61 = .ok (.bipush 28, 2) := by decide +kernel
theorem dX7_ring_63 : decode cX7_ring 63 = .ok (.iaload, 1) := by decide +kernel
theorem dX7_ring_64 : decode cX7_ring 64 = .ok (.iastore, 1) := by decide +kernel
theorem dX7_ring_65 : decode cX7_ring 65 = .ok (.iload_n 2, 1) := by decide +kernel
theorem dX7_ring_66 : decode cX7_ring 66 = .ok (.ireturn, 1) := by decide +kernel
theorem dX7_undo_0 : decode cX7_undo 0 = .ok (.aload_n 0, 1) := by decide +kernel
theorem dX7_undo_1 : decode cX7_undo 1 = .ok (.getfield 84, 3) := by decide +kernel
theorem dX7_undo_4 : decode cX7_undo 4 = .ok (.ifCond .ne 6, 3) := by decide +kernel
theorem dX7_undo_7 : decode cX7_undo 7 = .ok (.bipush (-2), 2) := by decide +kernel
theorem dX7_undo_9 : decode cX7_undo 9 = .ok (.ireturn, 1) := by decide +kernel
theorem dX7_undo_10 : decode cX7_undo 10 = .ok (.aload_n 0, 1) := by decide +kernel
theorem dX7_undo_11 : decode cX7_undo 11 = .ok (.dup, 1) := by decide +kernel
theorem dX7_undo_12 : decode cX7_undo 12 = .ok (.getfield 84, 3) := by decide +kernel
theorem dX7_undo_15 : decode cX7_undo 15 = .ok (.iconst 1, 1) := by decide +kernel
theorem dX7_undo_16 : decode cX7_undo 16 = .ok (.isub, 1) := by decide +kernel
theorem dX7_undo_17 : decode cX7_undo 17 = .ok (.putfield 84, 3) := by decide +kernel
theorem dX7_undo_20 : decode cX7_undo 20 = .ok (.iconst 0, 1) := by decide +kernel
theorem dX7_undo_21 : decode cX7_undo 21 = .ok (.istore_n 1, 1) := by decide +kernel
theorem dX7_undo_22 : decode cX7_undo 22 = .ok (.iload_n 1, 1) := by decide +kernel
theorem dX7_undo_23 : decode cX7_undo 23 = .ok (.bipush 29, 2) := by decide +kernel
theorem dX7_undo_25 : decode cX7_undo 25 = .ok (.if_icmp .ge 29, 3) := by decide +kernel
theorem dX7_undo_28 : decode cX7_undo 28 = .ok (.aload_n 0, 1) := by decide +kernel
theorem dX7_undo_29 : decode cX7_undo 29 = .ok (.getfield 22, 3) := by decide +kernel
theorem dX7_undo_32 : decode cX7_undo 32 = .ok (.iload_n 1, 1) := by decide +kernel
theorem dX7_undo_33 : decode cX7_undo 33 = .ok (.aload_n 0, 1) := by decide +kernel
theorem dX7_undo_34 : decode cX7_undo 34 = .ok (.getfield 25, 3) := by decide +kernel
theorem dX7_undo_37 : decode cX7_undo 37 = .ok (.bipush 29, 2) := by decide +kernel
theorem dX7_undo_39 : decode cX7_undo 39 = .ok (.aload_n 0, 1) := by decide +kernel
theorem dX7_undo_40 : decode cX7_undo 40 = .ok (.getfield 84, 3) := by decide +kernel
theorem dX7_undo_43 : decode cX7_undo 43 = .ok (.imul, 1) := by decide +kernel
theorem dX7_undo_44 : decode cX7_undo 44 = .ok (.iload_n 1, 1) := by decide +kernel
theorem dX7_undo_45 : decode cX7_undo 45 = .ok (.iadd, 1) := by decide +kernel
theorem dX7_undo_46 : decode cX7_undo 46 = .ok (.iaload, 1) := by decide +kernel
theorem dX7_undo_47 : decode cX7_undo 47 = .ok (.iastore, 1) := by decide +kernel
theorem dX7_undo_48 : decode cX7_undo 48 = .ok (.iinc 1 1, 3) := by decide +kernel
theorem dX7_undo_51 : decode cX7_undo 51 = .ok (.goto (-29), 3) := by decide +kernel
theorem dX7_undo_54 : decode cX7_undo 54 = .ok (.aload_n 0, 1) := by decide +kernel
theorem dX7_undo_55 : decode cX7_undo 55 = .ok (.getfield 84, 3) := by decide +kernel
theorem dX7_undo_58 : decode cX7_undo 58 = .ok (.ireturn, 1) := by decide +kernel
theorem dX7_holds_0 : decode cX7_holds 0 = .ok (.iconst 0, 1) := by decide +kernel
theorem dX7_holds_1 : decode cX7_holds 1 = .ok (.istore_n 1, 1) := by decide +kernel
theorem dX7_holds_2 : decode cX7_holds 2 = .ok (.iload_n 1, 1) := by decide +kernel
theorem dX7_holds_3 : decode cX7_holds 3 = .ok (.bipush 29, 2) := by decide +kernel
theorem dX7_holds_5 : decode cX7_holds 5 = .ok (.if_icmp .ge 21, 3) := by decide +kernel
theorem dX7_holds_8 : decode cX7_holds 8 = .ok (.aload_n 0, 1) := by decide +kernel
theorem dX7_holds_9 : decode cX7_holds 9 = .ok (.getfield 31, 3) := by decide +kernel
theorem dX7_holds_12 : decode cX7_holds 12 = .ok (.iload_n 1, 1) := by decide +kernel
theorem dX7_holds_13 : decode cX7_holds 13 = .ok (.aload_n 0, 1) := by decide +kernel
theorem dX7_holds_14 : decode cX7_holds 14 = .ok (.getfield 22, 3) := by decide +kernel
theorem dX7_holds_17 : decode cX7_holds 17 = .ok (.iload_n 1, 1) := by decide +kernel
theorem dX7_holds_18 : decode cX7_holds 18 = .ok (.iaload, 1) := by decide +kernel
theorem dX7_holds_19 : decode cX7_holds 19 = .ok (.iastore, 1) := by decide +kernel
theorem dX7_holds_20 : decode cX7_holds 20 = .ok (.iinc 1 1, 3) := by decide +kernel
theorem dX7_holds_23 : decode cX7_holds 23 = .ok (.goto (-21), 3) := by decide +kernel
theorem dX7_holds_26 : decode cX7_holds 26 = .ok (.return_, 1) := by decide +kernel
theorem dX7_lets_0 : decode cX7_lets 0 = .ok (.iconst 0, 1) := by decide +kernel
theorem dX7_lets_1 : decode cX7_lets 1 = .ok (.istore_n 1, 1) := by decide +kernel
theorem dX7_lets_2 : decode cX7_lets 2 = .ok (.iload_n 1, 1) := by decide +kernel
theorem dX7_lets_3 : decode cX7_lets 3 = .ok (.bipush 29, 2) := by decide +kernel
theorem dX7_lets_5 : decode cX7_lets 5 = .ok (.if_icmp .ge 21, 3) := by decide +kernel
theorem dX7_lets_8 : decode cX7_lets 8 = .ok (.aload_n 0, 1) := by decide +kernel
theorem dX7_lets_9 : decode cX7_lets 9 = .ok (.getfield 22, 3) := by decide +kernel
theorem dX7_lets_12 : decode cX7_lets 12 = .ok (.iload_n 1, 1) := by decide +kernel
theorem dX7_lets_13 : decode cX7_lets 13 = .ok (.aload_n 0, 1) := by decide +kernel
theorem dX7_lets_14 : decode cX7_lets 14 = .ok (.getfield 31, 3) := by decide +kernel
theorem dX7_lets_17 : decode cX7_lets 17 = .ok (.iload_n 1, 1) := by decide +kernel
theorem dX7_lets_18 : decode cX7_lets 18 = .ok (.iaload, 1) := by decide +kernel
theorem dX7_lets_19 : decode cX7_lets 19 = .ok (.iastore, 1) := by decide +kernel
theorem dX7_lets_20 : decode cX7_lets 20 = .ok (.iinc 1 1, 3) := by decide +kernel
theorem dX7_lets_23 : decode cX7_lets 23 = .ok (.goto (-21), 3) := by decide +kernel
theorem dX7_lets_26 : decode cX7_lets 26 = .ok (.return_, 1) := by decide +kernel
theorem dX7_eachTakes_0 : decode cX7_eachTakes 0 = .ok (.iconst 0, 1) := by decide +kernel
theorem dX7_eachTakes_1 : decode cX7_eachTakes 1 = .ok (.istore_n 1, 1) := by decide +kernel
theorem dX7_eachTakes_2 : decode cX7_eachTakes 2 = .ok (.iload_n 1, 1) := by decide +kernel
theorem dX7_eachTakes_3 : decode cX7_eachTakes 3 = .ok (.aload_n 0, 1) := by decide +kernel
theorem dX7_eachTakes_4 : decode cX7_eachTakes 4 = .ok (.getfield 13, 3) := by decide +kernel
theorem dX7_eachTakes_7 : decode cX7_eachTakes 7 = .ok (.iconst 1, 1) := by decide +kernel
theorem dX7_eachTakes_8 : decode cX7_eachTakes 8 = .ok (.iaload, 1) := by decide +kernel
theorem dX7_eachTakes_9 : decode cX7_eachTakes 9 = .ok (.if_icmp .ge 50, 3) := by decide +kernel
theorem dX7_eachTakes_12 : decode cX7_eachTakes 12 = .ok (.iconst 0, 1) := by decide +kernel
theorem dX7_eachTakes_13 : decode cX7_eachTakes 13 = .ok (.istore_n 2, 1) := by decide +kernel
theorem dX7_eachTakes_14 : decode cX7_eachTakes 14 = .ok (.iload_n 2, 1) := by decide +kernel
theorem dX7_eachTakes_15 : decode cX7_eachTakes 15 = .ok (.aload_n 0, 1) := by decide +kernel
theorem dX7_eachTakes_16 : decode cX7_eachTakes 16 = .ok (.getfield 13, 3) := by decide +kernel
theorem dX7_eachTakes_19 : decode cX7_eachTakes 19 = .ok (.iconst 0, 1) := by decide +kernel
theorem dX7_eachTakes_20 : decode cX7_eachTakes 20 = .ok (.iaload, 1) := by decide +kernel
theorem dX7_eachTakes_21 : decode cX7_eachTakes 21 = .ok (.if_icmp .ge 32, 3) := by decide +kernel
theorem dX7_eachTakes_24 : decode cX7_eachTakes 24 = .ok (.aload_n 0, 1) := by decide +kernel
theorem dX7_eachTakes_25 : decode cX7_eachTakes 25 = .ok (.iload_n 1, 1) := by decide +kernel
theorem dX7_eachTakes_26 : decode cX7_eachTakes 26 = .ok (.invokevirtual 103, 3) := by decide +kernel
theorem dX7_eachTakes_29 : decode cX7_eachTakes 29 = .ok (.ifCond .ne 18, 3) := by decide +kernel
theorem dX7_eachTakes_32 : decode cX7_eachTakes 32 = .ok (.aload_n 0, 1) := by decide +kernel
theorem dX7_eachTakes_33 : decode cX7_eachTakes 33 = .ok (.iload_n 1, 1) := by decide +kernel
theorem dX7_eachTakes_34 : decode cX7_eachTakes 34 = .ok (.iload_n 2, 1) := by decide +kernel
theorem dX7_eachTakes_35 : decode cX7_eachTakes 35 = .ok (.invokevirtual 110, 3) := by decide +kernel
theorem dX7_eachTakes_38 : decode cX7_eachTakes 38 = .ok (.ifCond .eq 9, 3) := by decide +kernel
theorem dX7_eachTakes_41 : decode cX7_eachTakes 41 = .ok (.aload_n 0, 1) := by decide +kernel
theorem dX7_eachTakes_42 : decode cX7_eachTakes 42 = .ok (.iload_n 1, 1) := by decide +kernel
theorem dX7_eachTakes_43 : decode cX7_eachTakes 43 = .ok (.iload_n 2, 1) := by decide +kernel
theorem dX7_eachTakes_44 : decode cX7_eachTakes 44 = .ok (.invokevirtual 116, 3) := by decide +kernel
theorem dX7_eachTakes_47 : decode cX7_eachTakes 47 = .ok (.iinc 2 1, 3) := by decide +kernel
theorem dX7_eachTakes_50 : decode cX7_eachTakes 50 = .ok (.goto (-36), 3) := by decide +kernel
theorem dX7_eachTakes_53 : decode cX7_eachTakes 53 = .ok (.iinc 1 1, 3) := by decide +kernel
theorem dX7_eachTakes_56 : decode cX7_eachTakes 56 = .ok (.goto (-54), 3) := by decide +kernel
theorem dX7_eachTakes_59 : decode cX7_eachTakes 59 = .ok (.return_, 1) := by decide +kernel
theorem dX7_warm_0 : decode cX7_warm 0 = .ok (.iconst 0, 1) := by decide +kernel
theorem dX7_warm_1 : decode cX7_warm 1 = .ok (.istore_n 1, 1) := by decide +kernel
theorem dX7_warm_2 : decode cX7_warm 2 = .ok (.iconst 0, 1) := by decide +kernel
theorem dX7_warm_3 : decode cX7_warm 3 = .ok (.istore_n 2, 1) := by decide +kernel
theorem dX7_warm_4 : decode cX7_warm 4 = .ok (.iload_n 2, 1) := by decide +kernel
theorem dX7_warm_5 : decode cX7_warm 5 = .ok (.aload_n 0, 1) := by decide +kernel
theorem dX7_warm_6 : decode cX7_warm 6 = .ok (.getfield 13, 3) := by decide +kernel
theorem dX7_warm_9 : decode cX7_warm 9 = .ok (.iconst 1, 1) := by decide +kernel
theorem dX7_warm_10 : decode cX7_warm 10 = .ok (.iaload, 1) := by decide +kernel
theorem dX7_warm_11 : decode cX7_warm 11 = .ok (.if_icmp .ge 27, 3) := by decide +kernel
theorem dX7_warm_14 : decode cX7_warm 14 = .ok (.iload_n 1, 1) := by decide +kernel
theorem dX7_warm_15 : decode cX7_warm 15 = .ok (.aload_n 0, 1) := by decide +kernel
theorem dX7_warm_16 : decode cX7_warm 16 = .ok (.iload_n 2, 1) := by decide +kernel
theorem dX7_warm_17 : decode cX7_warm 17 = .ok (.invokevirtual 103, 3) := by decide +kernel
theorem dX7_warm_20 : decode cX7_warm 20 = .ok (.ifCond .eq 9, 3) := by decide +kernel
theorem dX7_warm_23 : decode cX7_warm 23 = .ok (.iconst 1, 1) := by decide +kernel
theorem dX7_warm_24 : decode cX7_warm 24 = .ok (.iload_n 2, 1) := by decide +kernel
theorem dX7_warm_25 : decode cX7_warm 25 = .ok (.ishl, 1) := by decide +kernel
theorem dX7_warm_26 : decode cX7_warm 26 = .ok (.goto 4, 3) := by decide +kernel
theorem dX7_warm_29 : decode cX7_warm 29 = .ok (.iconst 0, 1) := by decide +kernel
theorem dX7_warm_30 : decode cX7_warm 30 = .ok (.ior, 1) := by decide +kernel
theorem dX7_warm_31 : decode cX7_warm 31 = .ok (.istore_n 1, 1) := by decide +kernel
theorem dX7_warm_32 : decode cX7_warm 32 = .ok (.iinc 2 1, 3) := by decide +kernel
theorem dX7_warm_35 : decode cX7_warm 35 = .ok (.goto (-31), 3) := by decide +kernel
theorem dX7_warm_38 : decode cX7_warm 38 = .ok (.iload_n 1, 1) := by decide +kernel
theorem dX7_warm_39 : decode cX7_warm 39 = .ok (.ireturn, 1) := by decide +kernel
theorem dX7_warmAt_0 : decode cX7_warmAt 0 = .ok (.aload_n 0, 1) := by decide +kernel
theorem dX7_warmAt_1 : decode cX7_warmAt 1 = .ok (.getfield 22, 3) := by decide +kernel
theorem dX7_warmAt_4 : decode cX7_warmAt 4 = .ok (.bipush 28, 2) := by decide +kernel
theorem dX7_warmAt_6 : decode cX7_warmAt 6 = .ok (.iaload, 1) := by decide +kernel
theorem dX7_warmAt_7 : decode cX7_warmAt 7 = .ok (.iload_n 1, 1) := by decide +kernel
theorem dX7_warmAt_8 : decode cX7_warmAt 8 = .ok (.if_icmp .ge 14, 3) := by decide +kernel
theorem dX7_warmAt_11 : decode cX7_warmAt 11 = .ok (.aload_n 0, 1) := by decide +kernel
theorem dX7_warmAt_12 : decode cX7_warmAt 12 = .ok (.invokevirtual 123, 3) := by decide +kernel
theorem dX7_warmAt_15 : decode cX7_warmAt 15 = .ok (.aload_n 0, 1) := by decide +kernel
theorem dX7_warmAt_16 : decode cX7_warmAt 16 = .ok (.invokevirtual 120, 3) := by decide +kernel
theorem dX7_warmAt_19 : decode cX7_warmAt 19 = .ok (.goto (-19), 3) := by decide +kernel
theorem dX7_warmAt_22 : decode cX7_warmAt 22 = .ok (.aload_n 0, 1) := by decide +kernel
theorem dX7_warmAt_23 : decode cX7_warmAt 23 = .ok (.invokevirtual 123, 3) := by decide +kernel
theorem dX7_warmAt_26 : decode cX7_warmAt 26 = .ok (.aload_n 0, 1) := by decide +kernel
theorem dX7_warmAt_27 : decode cX7_warmAt 27 = .ok (.invokevirtual 126, 3) := by decide +kernel
theorem dX7_warmAt_30 : decode cX7_warmAt 30 = .ok (.ireturn, 1) := by decide +kernel
theorem dX7_warmBy_0 : decode cX7_warmBy 0 = .ok (.iload_n 1, 1) := by decide +kernel
theorem dX7_warmBy_1 : decode cX7_warmBy 1 = .ok (.aload_n 0, 1) := by decide +kernel
theorem dX7_warmBy_2 : decode cX7_warmBy 2 = .ok (.getfield 22, 3) := by decide +kernel
theorem dX7_warmBy_5 : decode cX7_warmBy 5 = .ok (.bipush 28, 2) := by decide +kernel
theorem dX7_warmBy_7 : decode cX7_warmBy 7 = .ok (.iaload, 1) := by decide +kernel
theorem dX7_warmBy_8 : decode cX7_warmBy 8 = .ok (.bipush 99, 2) := by decide +kernel
theorem dX7_warmBy_10 : decode cX7_warmBy 10 = .ok (.invokestatic 54, 3) := by decide +kernel
theorem dX7_warmBy_13 : decode cX7_warmBy 13 = .ok (.ifCond .ne 5, 3) := by decide +kernel
theorem dX7_warmBy_16 : decode cX7_warmBy 16 = .ok (.iconst (-1), 1) := by decide +kernel
theorem dX7_warmBy_17 : decode cX7_warmBy 17 = .ok (.ireturn, 1) := by decide +kernel
theorem dX7_warmBy_18 : decode cX7_warmBy 18 = .ok (.aload_n 0, 1) := by decide +kernel
theorem dX7_warmBy_19 : decode cX7_warmBy 19 = .ok (.invokevirtual 129, 3) := by decide +kernel
theorem dX7_warmBy_22 : decode cX7_warmBy 22 = .ok (.aload_n 0, 1) := by decide +kernel
theorem dX7_warmBy_23 : decode cX7_warmBy 23 = .ok (.iload_n 1, 1) := by decide +kernel
theorem dX7_warmBy_24 : decode cX7_warmBy 24 = .ok (.invokevirtual 132, 3) := by decide +kernel
theorem dX7_warmBy_27 : decode cX7_warmBy 27 = .ok (.istore_n 2, 1) := by decide +kernel
theorem dX7_warmBy_28 : decode cX7_warmBy 28 = .ok (.aload_n 0, 1) := by decide +kernel
theorem dX7_warmBy_29 : decode cX7_warmBy 29 = .ok (.invokevirtual 135, 3) := by decide +kernel
theorem dX7_warmBy_32 : decode cX7_warmBy 32 = .ok (.iload_n 2, 1) := by decide +kernel
theorem dX7_warmBy_33 : decode cX7_warmBy 33 = .ok (.ireturn, 1) := by decide +kernel
theorem dX7_allWarm_0 : decode cX7_allWarm 0 = .ok (.aload_n 0, 1) := by decide +kernel
theorem dX7_allWarm_1 : decode cX7_allWarm 1 = .ok (.invokevirtual 129, 3) := by decide +kernel
theorem dX7_allWarm_4 : decode cX7_allWarm 4 = .ok (.bipush (-4), 2) := by decide +kernel
theorem dX7_allWarm_6 : decode cX7_allWarm 6 = .ok (.istore_n 1, 1) := by decide +kernel
theorem dX7_allWarm_7 : decode cX7_allWarm 7 = .ok (.aload_n 0, 1) := by decide +kernel
theorem dX7_allWarm_8 : decode cX7_allWarm 8 = .ok (.getfield 22, 3) := by decide +kernel
theorem dX7_allWarm_11 : decode cX7_allWarm 11 = .ok (.bipush 28, 2) := by decide +kernel
theorem dX7_allWarm_13 : decode cX7_allWarm 13 = .ok (.iaload, 1) := by decide +kernel
theorem dX7_allWarm_14 : decode cX7_allWarm 14 = .ok (.bipush 99, 2) := by decide +kernel
theorem dX7_allWarm_16 : decode cX7_allWarm 16 = .ok (.if_icmp .gt 50, 3) := by decide +kernel
theorem dX7_allWarm_19 : decode cX7_allWarm 19 = .ok (.iload_n 1, 1) := by decide +kernel
theorem dX7_allWarm_20 : decode cX7_allWarm 20 = .ok (.bipush (-4), 2) := by decide +kernel
theorem dX7_allWarm_22 : decode cX7_allWarm 22 = .ok (.if_icmp .ne 44, 3) := by decide +kernel
theorem dX7_allWarm_25 : decode cX7_allWarm 25 = .ok (.aload_n 0, 1) := by decide +kernel
theorem dX7_allWarm_26 : decode cX7_allWarm 26 = .ok (.invokevirtual 123, 3) := by decide +kernel
theorem dX7_allWarm_29 : decode cX7_allWarm 29 = .ok (.aload_n 0, 1) := by decide +kernel
theorem dX7_allWarm_30 : decode cX7_allWarm 30 = .ok (.invokevirtual 126, 3) := by decide +kernel
theorem dX7_allWarm_33 : decode cX7_allWarm 33 = .ok (.iconst 1, 1) := by decide +kernel
theorem dX7_allWarm_34 : decode cX7_allWarm 34 = .ok (.aload_n 0, 1) := by decide +kernel
theorem dX7_allWarm_35 : decode cX7_allWarm 35 = .ok (.getfield 13, 3) := by decide +kernel
theorem dX7_allWarm_38 : decode cX7_allWarm 38 = .ok (.iconst 1, 1) := by decide +kernel
theorem dX7_allWarm_39 : decode cX7_allWarm 39 = .ok (.iaload, 1) := by decide +kernel
theorem dX7_allWarm_40 : decode cX7_allWarm 40 = .ok (.ishl, 1) := by decide +kernel
theorem dX7_allWarm_41 : decode cX7_allWarm 41 = .ok (.iconst 1, 1) := by decide +kernel
theorem dX7_allWarm_42 : decode cX7_allWarm 42 = .ok (.isub, 1) := by decide +kernel
theorem dX7_allWarm_43 : decode cX7_allWarm 43 = .ok (.if_icmp .ne 13, 3) := by decide +kernel
theorem dX7_allWarm_46 : decode cX7_allWarm 46 = .ok (.aload_n 0, 1) := by decide +kernel
theorem dX7_allWarm_47 : decode cX7_allWarm 47 = .ok (.getfield 22, 3) := by decide +kernel
theorem dX7_allWarm_50 : decode cX7_allWarm 50 = .ok (.bipush 28, 2) := by decide +kernel
theorem dX7_allWarm_52 : decode cX7_allWarm 52 = .ok (.iaload, 1) := by decide +kernel
theorem dX7_allWarm_53 : decode cX7_allWarm 53 = .ok (.goto 5, 3) := by decide +kernel
theorem dX7_allWarm_56 : decode cX7_allWarm 56 = .ok (.bipush (-4), 2) := by decide +kernel
theorem dX7_allWarm_58 : decode cX7_allWarm 58 = .ok (.istore_n 1, 1) := by decide +kernel
theorem dX7_allWarm_59 : decode cX7_allWarm 59 = .ok (.aload_n 0, 1) := by decide +kernel
theorem dX7_allWarm_60 : decode cX7_allWarm 60 = .ok (.invokevirtual 120, 3) := by decide +kernel
theorem dX7_allWarm_63 : decode cX7_allWarm 63 = .ok (.goto (-56), 3) := by decide +kernel
theorem dX7_allWarm_66 : decode cX7_allWarm 66 = .ok (.aload_n 0, 1) := by decide +kernel
theorem dX7_allWarm_67 : decode cX7_allWarm 67 = .ok (.invokevirtual 135, 3) := by decide +kernel
theorem dX7_allWarm_70 : decode cX7_allWarm 70 = .ok (.iload_n 1, 1) := by decide +kernel
theorem dX7_allWarm_71 : decode cX7_allWarm 71 = .ok (.ireturn, 1) := by decide +kernel
theorem dX7_share_0 : decode cX7_share 0 = .ok (.iload_n 1, 1) := by decide +kernel
theorem dX7_share_1 : decode cX7_share 1 = .ok (.iconst (-1), 1) := by decide +kernel
theorem dX7_share_2 : decode cX7_share 2 = .ok (.if_icmp .eq 13, 3) := by decide +kernel
theorem dX7_share_5 : decode cX7_share 5 = .ok (.aload_n 0, 1) := by decide +kernel
theorem dX7_share_6 : decode cX7_share 6 = .ok (.iload_n 1, 1) := by decide +kernel
theorem dX7_share_7 : decode cX7_share 7 = .ok (.invokevirtual 90, 3) := by decide +kernel
theorem dX7_share_10 : decode cX7_share 10 = .ok (.ifCond .ne 5, 3) := by decide +kernel
theorem dX7_share_13 : decode cX7_share 13 = .ok (.iconst (-1), 1) := by decide +kernel
theorem dX7_share_14 : decode cX7_share 14 = .ok (.ireturn, 1) := by decide +kernel
theorem dX7_share_15 : decode cX7_share 15 = .ok (.aload_n 0, 1) := by decide +kernel
theorem dX7_share_16 : decode cX7_share 16 = .ok (.getfield 13, 3) := by decide +kernel
theorem dX7_share_19 : decode cX7_share 19 = .ok (.iconst 0, 1) := by decide +kernel
theorem dX7_share_20 : decode cX7_share 20 = .ok (.iaload, 1) := by decide +kernel
theorem dX7_share_21 : decode cX7_share 21 = .ok (.istore_n 2, 1) := by decide +kernel
theorem dX7_share_22 : decode cX7_share 22 = .ok (.aload_n 0, 1) := by decide +kernel
theorem dX7_share_23 : decode cX7_share 23 = .ok (.getfield 13, 3) := by decide +kernel
theorem dX7_share_26 : decode cX7_share 26 = .ok (.iconst 1, 1) := by decide +kernel
theorem dX7_share_27 : decode cX7_share 27 = .ok (.iaload, 1) := by decide +kernel
theorem dX7_share_28 : decode cX7_share 28 = .ok (.istore_n 3, 1) := by decide +kernel
theorem dX7_share_29 : decode cX7_share 29 = .ok (.iconst 1, 1) := by decide +kernel
theorem dX7_share_30 : decode cX7_share 30 = .ok (.istore 4, 2) := by decide +kernel
theorem dX7_share_32 : decode cX7_share 32 = .ok (.iconst 0, 1) := by decide +kernel
theorem dX7_share_33 : decode cX7_share 33 = .ok (.istore 5, 2) := by decide +kernel
theorem dX7_share_35 : decode cX7_share 35 = .ok (.iload 5, 2) := by decide +kernel
theorem dX7_share_37 : decode cX7_share 37 = .ok (.iload_n 2, 1) := by decide +kernel
theorem dX7_share_38 : decode cX7_share 38 = .ok (.if_icmp .ge 17, 3) := by decide +kernel
theorem dX7_share_41 : decode cX7_share 41 = .ok (.iload 4, 2) := by decide +kernel
theorem dX7_share_43 : decode cX7_share 43 = .ok (.iload_n 3, 1) := by decide +kernel
theorem dX7_share_44 : decode cX7_share 44 = .ok (.iconst 1, 1) := by decide +kernel
theorem dX7_share_45 : decode cX7_share 45 = .ok (.iadd, 1) := by decide +kernel
theorem dX7_share_46 : decode cX7_share 46 = .ok (.imul, 1) := by decide +kernel
theorem dX7_share_47 : decode cX7_share 47 = .ok (.istore 4, 2) := by decide +kernel
theorem dX7_share_49 : decode cX7_share 49 = .ok (.iinc 5 1, 3) := by decide +kernel
theorem dX7_share_52 : decode cX7_share 52 = .ok (.goto (-17), 3) := by decide +kernel
theorem dX7_share_55 : decode cX7_share 55 = .ok (.iconst (-1), 1) := by decide +kernel
theorem dX7_share_56 : decode cX7_share 56 = .ok (.istore 5, 2) := by decide +kernel
theorem dX7_share_58 : decode cX7_share 58 = .ok (.bipush (-4), 2) := by decide +kernel
theorem dX7_share_60 : decode cX7_share 60 = .ok (.istore 6, 2) := by decide +kernel
theorem dX7_share_62 : decode cX7_share 62 = .ok (.iconst 0, 1) := by decide +kernel
theorem dX7_share_63 : decode cX7_share 63 = .ok (.istore 7, 2) := by decide +kernel
theorem dX7_share_65 : decode cX7_share 65 = .ok (.iload 7, 2) := by decide +kernel
theorem dX7_share_67 : decode cX7_share 67 = .ok (.iload 4, 2) := by decide +kernel
theorem dX7_share_69 : decode cX7_share 69 = .ok (.if_icmp .ge 226, 3) := by decide +kernel
theorem dX7_share_72 : decode cX7_share 72 = .ok (.iload 7, 2) := by decide +kernel
theorem dX7_share_74 : decode cX7_share 74 = .ok (.istore 8, 2) := by decide +kernel
theorem dX7_share_76 : decode cX7_share 76 = .ok (.iconst 0, 1) := by decide +kernel
theorem dX7_share_77 : decode cX7_share 77 = .ok (.istore 9, 2) := by decide +kernel
theorem dX7_share_79 : decode cX7_share 79 = .ok (.iconst 1, 1) := by decide +kernel
theorem dX7_share_80 : decode cX7_share 80 = .ok (.istore 10, 2) := by decide +kernel
theorem dX7_share_82 : decode cX7_share 82 = .ok (.iconst 0, 1) := by decide +kernel
theorem dX7_share_83 : decode cX7_share 83 = .ok (.istore 11, 2) := by decide +kernel
theorem dX7_share_85 : decode cX7_share 85 = .ok (.iload 11, 2) := by decide +kernel
theorem dX7_share_87 : decode cX7_share 87 = .ok (.iload_n 3, 1) := by decide +kernel
theorem dX7_share_88 : decode cX7_share 88 = .ok (.if_icmp .ge 26, 3) := by decide +kernel
theorem dX7_share_91 : decode cX7_share 91 = .ok (.aload_n 0, 1) := by decide +kernel
theorem dX7_share_92 : decode cX7_share 92 = .ok (.getfield 34, 3) := by decide +kernel
theorem dX7_share_95 : decode cX7_share 95 = .ok (.iload 11, 2) := by decide +kernel
theorem dX7_share_97 : decode cX7_share 97 = .ok (.aload_n 0, 1) := by decide +kernel
theorem dX7_share_98 : decode cX7_share 98 = .ok (.getfield 22, 3) := by decide +kernel
theorem dX7_share_101 : decode cX7_share 101 = .ok (.bipush 24, 2) := by decide +kernel
theorem dX7_share_103 : decode cX7_share 103 = .ok (.iload 11, 2) := by decide +kernel
theorem dX7_share_105 : decode cX7_share 105 = .ok (.iadd, 1) := by decide +kernel
theorem dX7_share_106 : decode cX7_share 106 = .ok (.iaload, 1) := by decide +kernel
theorem dX7_share_107 : decode cX7_share 107 = .ok (.iastore, 1) := by decide +kernel
theorem dX7_share_108 : decode cX7_share 108 = .ok (.iinc 11 1, 3) := by decide +kernel
theorem dX7_share_111 : decode cX7_share 111 = .ok (.goto (-26), 3) := by decide +kernel
theorem dX7_share_114 : decode cX7_share 114 = .ok (.iload_n 2, 1) := by decide +kernel
theorem dX7_share_115 : decode cX7_share 115 = .ok (.iconst 1, 1) := by decide +kernel
theorem dX7_share_116 : decode cX7_share 116 = .ok (.isub, 1) := by decide +kernel
theorem dX7_share_117 : decode cX7_share 117 = .ok (.istore 11, 2) := by decide +kernel
theorem dX7_share_119 : decode cX7_share 119 = .ok (.iload 11, 2) := by decide +kernel
theorem dX7_share_121 : decode cX7_share 121 = .ok (.ifCond .lt 125, 3) := by decide +kernel
theorem dX7_share_124 : decode cX7_share 124 = .ok (.iload 10, 2) := by decide +kernel
theorem dX7_share_126 : decode cX7_share 126 = .ok (.ifCond .eq 120, 3) := by decide +kernel
theorem dX7_share_129 : decode cX7_share 129 = .ok (.iload 8, 2) := by decide +kernel
theorem dX7_share_131 : decode cX7_share 131 = .ok (.iload_n 3, 1) := by decide +kernel
theorem dX7_share_132 : decode cX7_share 132 = .ok (.iconst 1, 1) := by decide +kernel
theorem dX7_share_133 : decode cX7_share 133 = .ok (.iadd, 1) := by decide +kernel
theorem dX7_share_134 : decode cX7_share 134 = .ok (.irem, 1) := by decide +kernel
theorem dX7_share_135 : decode cX7_share 135 = .ok (.istore 12, 2) := by decide +kernel
theorem dX7_share_137 : decode cX7_share 137 = .ok (.iload 8, 2) := by decide +kernel
theorem dX7_share_139 : decode cX7_share 139 = .ok (.iload_n 3, 1) := by decide +kernel
theorem dX7_share_140 : decode cX7_share 140 = .ok (.iconst 1, 1) := by decide +kernel
theorem dX7_share_141 : decode cX7_share 141 = .ok (.iadd, 1) := by decide +kernel
theorem dX7_share_142 : decode cX7_share 142 = .ok (.idiv, 1) := by decide +kernel
theorem dX7_share_143 : decode cX7_share 143 = .ok (.istore 8, 2) := by decide +kernel
theorem dX7_share_145 : decode cX7_share 145 = .ok (.aload_n 0, 1) := by decide +kernel
theorem dX7_share_146 : decode cX7_share 146 = .ok (.getfield 37, 3) := by decide +kernel
theorem dX7_share_149 : decode cX7_share 149 = .ok (.iload 11, 2) := by decide +kernel
theorem dX7_share_151 : decode cX7_share 151 = .ok (.iload 12, 2) := by decide +kernel
theorem dX7_share_153 : decode cX7_share 153 = .ok (.iastore, 1) := by decide +kernel
theorem dX7_share_154 : decode cX7_share 154 = .ok (.iload 12, 2) := by decide +kernel
theorem dX7_share_156 : decode cX7_share 156 = .ok (.iload_n 3, 1) := by decide +kernel
theorem dX7_share_157 : decode cX7_share 157 = .ok (.if_icmp .ge 83, 3) := by decide +kernel
theorem dX7_share_160 : decode cX7_share 160 = .ok (.aload_n 0, 1) := by decide +kernel
theorem dX7_share_161 : decode cX7_share 161 = .ok (.getfield 22, 3) := by decide +kernel
theorem dX7_share_164 : decode cX7_share 164 = .ok (.bipush 8, 2) := by decide +kernel
theorem dX7_share_166 : decode cX7_share 166 = .ok (.iload 11, 2) := by decide +kernel
theorem dX7_share_168 : decode cX7_share 168 = .ok (.iadd, 1) := by decide +kernel
theorem dX7_share_169 : decode cX7_share 169 = .ok (.iaload, 1) := by decide +kernel
theorem dX7_share_170 : decode cX7_share 170 = .ok (.ifCond .ne 32, 3) := by decide +kernel
theorem dX7_share_173 : decode cX7_share 173 = .ok (.aload_n 0, 1) := by decide +kernel
theorem dX7_share_174 : decode cX7_share 174 = .ok (.iload 12, 2) := by decide +kernel
theorem dX7_share_176 : decode cX7_share 176 = .ok (.iload 11, 2) := by decide +kernel
theorem dX7_share_178 : decode cX7_share 178 = .ok (.aload_n 0, 1) := by decide +kernel
theorem dX7_share_179 : decode cX7_share 179 = .ok (.getfield 22, 3) := by decide +kernel
theorem dX7_share_182 : decode cX7_share 182 = .ok (.bipush 28, 2) := by decide +kernel
theorem dX7_share_184 : decode cX7_share 184 = .ok (.iaload, 1) := by decide +kernel
theorem dX7_share_185 : decode cX7_share 185 = .ok (.aload_n 0, 1) := by decide +kernel
theorem dX7_share_186 : decode cX7_share 186 = .ok (.getfield 34, 3) := by decide +kernel
theorem dX7_share_189 : decode cX7_share 189 = .ok (.iload 12, 2) := by decide +kernel
theorem dX7_share_191 : decode cX7_share 191 = .ok (.iaload, 1) := by decide +kernel
theorem dX7_share_192 : decode cX7_share 192 = .ok (.invokevirtual 106, 3) := by decide +kernel
theorem dX7_share_195 : decode cX7_share 195 = .ok (.ifCond .eq 7, 3) := by decide +kernel
theorem dX7_share_198 : decode cX7_share 198 = .ok (.iconst 1, 1) := by decide +kernel
theorem dX7_share_199 : decode cX7_share 199 = .ok (.goto 4, 3) := by decide +kernel
theorem dX7_share_202 : decode cX7_share 202 = .ok (.iconst 0, 1) := by decide +kernel
theorem dX7_share_203 : decode cX7_share 203 = .ok (.istore 10, 2) := by decide +kernel
theorem dX7_share_205 : decode cX7_share 205 = .ok (.aload_n 0, 1) := by decide +kernel
theorem dX7_share_206 : decode cX7_share 206 = .ok (.getfield 34, 3) := by decide +kernel
theorem dX7_share_209 : decode cX7_share 209 = .ok (.iload 12, 2) := by decide +kernel
theorem dX7_share_211 : decode cX7_share 211 = .ok (.dup2, 1) := by decide +kernel
theorem dX7_share_212 : decode cX7_share 212 = .ok (.iaload, 1) := by decide +kernel
theorem dX7_share_213 : decode cX7_share 213 = .ok (.aload_n 0, 1) := by decide +kernel
theorem dX7_share_214 : decode cX7_share 214 = .ok (.getfield 13, 3) := by decide +kernel
theorem dX7_share_217 : decode cX7_share 217 = .ok (.bipush 21, 2) := by decide +kernel
theorem dX7_share_219 : decode cX7_share 219 = .ok (.iload 11, 2) := by decide +kernel
theorem dX7_share_221 : decode cX7_share 221 = .ok (.iadd, 1) := by decide +kernel
theorem dX7_share_222 : decode cX7_share 222 = .ok (.iaload, 1) := by decide +kernel
theorem dX7_share_223 : decode cX7_share 223 = .ok (.iadd, 1) := by decide +kernel
theorem dX7_share_224 : decode cX7_share 224 = .ok (.iastore, 1) := by decide +kernel
theorem dX7_share_225 : decode cX7_share 225 = .ok (.iload 9, 2) := by decide +kernel
theorem dX7_share_227 : decode cX7_share 227 = .ok (.aload_n 0, 1) := by decide +kernel
theorem dX7_share_228 : decode cX7_share 228 = .ok (.getfield 13, 3) := by decide +kernel
theorem dX7_share_231 : decode cX7_share 231 = .ok (.bipush 21, 2) := by decide +kernel
theorem dX7_share_233 : decode cX7_share 233 = .ok (.iload 11, 2) := by decide +kernel
theorem dX7_share_235 : decode cX7_share 235 = .ok (.iadd, 1) := by decide +kernel
theorem dX7_share_236 : decode cX7_share 236 = .ok (.iaload, 1) := by decide +kernel
theorem dX7_share_237 : decode cX7_share 237 = .ok (.iadd, 1) := by decide +kernel
theorem dX7_share_238 : decode cX7_share 238 = .ok (.istore 9, 2) := by decide +kernel
theorem dX7_share_240 : decode cX7_share 240 = .ok (.iinc 11 (-1), 3) := by decide +kernel
theorem dX7_share_243 : decode cX7_share 243 = .ok (.goto (-124), 3) := by decide +kernel
theorem dX7_share_246 : decode cX7_share 246 = .ok (.iload 10, 2) := by decide +kernel
theorem dX7_share_248 : decode cX7_share 248 = .ok (.ifCond .eq 41, 3) := by decide +kernel
theorem dX7_share_251 : decode cX7_share 251 = .ok (.iload 9, 2) := by decide +kernel
theorem dX7_share_253 : decode cX7_share 253 = .ok (.iload 5, 2) := by decide +kernel
theorem dX7_share_255 : decode cX7_share 255 = .ok (.if_icmp .le 34, 3) := by decide +kernel
theorem dX7_share_258 : decode cX7_share 258 = .ok (.iload 9, 2) := by decide +kernel
theorem dX7_share_260 : decode cX7_share 260 = .ok (.istore 5, 2) := by decide +kernel
theorem dX7_share_262 : decode cX7_share 262 = .ok (.iload_n 1, 1) := by decide +kernel
theorem dX7_share_263 : decode cX7_share 263 = .ok (.ifCond .lt 13, 3) := by decide +kernel
theorem dX7_share_266 : decode cX7_share 266 = .ok (.aload_n 0, 1) := by decide +kernel
theorem dX7_share_267 : decode cX7_share 267 = .ok (.getfield 37, 3) := by decide +kernel
theorem dX7_share_270 : decode cX7_share 270 = .ok (.iload_n 1, 1) := by decide +kernel
theorem dX7_share_271 : decode cX7_share 271 = .ok (.iaload, 1) := by decide +kernel
theorem dX7_share_272 : decode cX7_share 272 = .ok (.iload_n 3, 1) := by decide +kernel
theorem dX7_share_273 : decode cX7_share 273 = .ok (.if_icmp .ne 8, 3) := by decide +kernel
theorem dX7_share_276 : decode cX7_share 276 = .ok (.bipush (-4), 2) := by decide +kernel
theorem dX7_share_278 : decode cX7_share 278 = .ok (.goto 9, 3) := by decide +kernel
theorem dX7_share_281 : decode cX7_share 281 = .ok (.aload_n 0, 1) := by decide +kernel
theorem dX7_share_282 : decode cX7_share 282 = .ok (.getfield 37, 3) := by decide +kernel
theorem dX7_share_285 : decode cX7_share 285 = .ok (.iload_n 1, 1) := by decide +kernel
theorem dX7_share_286 : decode cX7_share 286 = .ok (.iaload, 1) := by decide +kernel
theorem dX7_share_287 : decode cX7_share 287 = .ok (.istore 6, 2) := by decide +kernel
theorem dX7_share_289 : decode cX7_share 289 = .ok (.iinc 7 1, 3) := by decide +kernel
theorem dX7_share_292 : decode cX7_share 292 = .ok (.goto (-227), 3) := by decide +kernel
theorem dX7_share_295 : decode cX7_share 295 = .ok (.iload_n 1, 1) := by decide +kernel
theorem dX7_share_296 : decode cX7_share 296 = .ok (.ifCond .ge 8, 3) := by decide +kernel
theorem dX7_share_299 : decode cX7_share 299 = .ok (.iload 5, 2) := by decide +kernel
theorem dX7_share_301 : decode cX7_share 301 = .ok (.goto 5, 3) := by decide +kernel
theorem dX7_share_304 : decode cX7_share 304 = .ok (.iload 6, 2) := by decide +kernel
theorem dX7_share_306 : decode cX7_share 306 = .ok (.ireturn, 1) := by decide +kernel
theorem dX7_leastHook_0 : decode cX7_leastHook 0 = .ok (.aload_n 0, 1) := by decide +kernel
theorem dX7_leastHook_1 : decode cX7_leastHook 1 = .ok (.iload_n 1, 1) := by decide +kernel
theorem dX7_leastHook_2 : decode cX7_leastHook 2 = .ok (.invokevirtual 100, 3) := by decide +kernel
theorem dX7_leastHook_5 : decode cX7_leastHook 5 = .ok (.ifCond .ne 5, 3) := by decide +kernel
theorem dX7_leastHook_8 : decode cX7_leastHook 8 = .ok (.iconst (-1), 1) := by decide +kernel
theorem dX7_leastHook_9 : decode cX7_leastHook 9 = .ok (.ireturn, 1) := by decide +kernel
theorem dX7_leastHook_10 : decode cX7_leastHook 10 = .ok (.aload_n 0, 1) := by decide +kernel
theorem dX7_leastHook_11 : decode cX7_leastHook 11 = .ok (.invokevirtual 129, 3) := by decide +kernel
theorem dX7_leastHook_14 : decode cX7_leastHook 14 = .ok (.bipush (-4), 2) := by decide +kernel
theorem dX7_leastHook_16 : decode cX7_leastHook 16 = .ok (.istore_n 2, 1) := by decide +kernel
theorem dX7_leastHook_17 : decode cX7_leastHook 17 = .ok (.bipush 20, 2) := by decide +kernel
theorem dX7_leastHook_19 : decode cX7_leastHook 19 = .ok (.istore_n 3, 1) := by decide +kernel
theorem dX7_leastHook_20 : decode cX7_leastHook 20 = .ok (.iload_n 3, 1) := by decide +kernel
theorem dX7_leastHook_21 : decode cX7_leastHook 21 = .ok (.ifCond .le 43, 3) := by decide +kernel
theorem dX7_leastHook_24 : decode cX7_leastHook 24 = .ok (.aload_n 0, 1) := by decide +kernel
theorem dX7_leastHook_25 : decode cX7_leastHook 25 = .ok (.getfield 22, 3) := by decide +kernel
theorem dX7_leastHook_28 : decode cX7_leastHook 28 = .ok (.bipush 16, 2) := by decide +kernel
theorem dX7_leastHook_30 : decode cX7_leastHook 30 = .ok (.iload_n 1, 1) := by decide +kernel
theorem dX7_leastHook_31 : decode cX7_leastHook 31 = .ok (.iadd, 1) := by decide +kernel
theorem dX7_leastHook_32 : decode cX7_leastHook 32 = .ok (.iload_n 3, 1) := by decide +kernel
theorem dX7_leastHook_33 : decode cX7_leastHook 33 = .ok (.iastore, 1) := by decide +kernel
theorem dX7_leastHook_34 : decode cX7_leastHook 34 = .ok (.aload_n 0, 1) := by decide +kernel
theorem dX7_leastHook_35 : decode cX7_leastHook 35 = .ok (.bipush 99, 2) := by decide +kernel
theorem dX7_leastHook_37 : decode cX7_leastHook 37 = .ok (.invokevirtual 132, 3) := by decide +kernel
theorem dX7_leastHook_40 : decode cX7_leastHook 40 = .ok (.iload_n 1, 1) := by decide +kernel
theorem dX7_leastHook_41 : decode cX7_leastHook 41 = .ok (.ishr, 1) := by decide +kernel
theorem dX7_leastHook_42 : decode cX7_leastHook 42 = .ok (.iconst 1, 1) := by decide +kernel
theorem dX7_leastHook_43 : decode cX7_leastHook 43 = .ok (.iand, 1) := by decide +kernel
theorem dX7_leastHook_44 : decode cX7_leastHook 44 = .ok (.iconst 1, 1) := by decide +kernel
theorem dX7_leastHook_45 : decode cX7_leastHook 45 = .ok (.if_icmp .ne 7, 3) := by decide +kernel
theorem dX7_leastHook_48 : decode cX7_leastHook 48 = .ok (.iload_n 3, 1) := by decide +kernel
theorem dX7_leastHook_49 : decode cX7_leastHook 49 = .ok (.goto 4, 3) := by decide +kernel
theorem dX7_leastHook_52 : decode cX7_leastHook 52 = .ok (.iload_n 2, 1) := by decide +kernel
theorem dX7_leastHook_53 : decode cX7_leastHook 53 = .ok (.istore_n 2, 1) := by decide +kernel
theorem dX7_leastHook_54 : decode cX7_leastHook 54 = .ok (.aload_n 0, 1) := by decide +kernel
theorem dX7_leastHook_55 : decode cX7_leastHook 55 = .ok (.invokevirtual 135, 3) := by decide +kernel
theorem dX7_leastHook_58 : decode cX7_leastHook 58 = .ok (.iinc 3 (-1), 3) := by decide +kernel
theorem dX7_leastHook_61 : decode cX7_leastHook 61 = .ok (.goto (-41), 3) := by decide +kernel
theorem dX7_leastHook_64 : decode cX7_leastHook 64 = .ok (.iload_n 2, 1) := by decide +kernel
theorem dX7_leastHook_65 : decode cX7_leastHook 65 = .ok (.ireturn, 1) := by decide +kernel
theorem dX7_pole_0 : decode cX7_pole 0 = .ok (.aload_n 0, 1) := by decide +kernel
theorem dX7_pole_1 : decode cX7_pole 1 = .ok (.invokevirtual 129, 3) := by decide +kernel
theorem dX7_pole_4 : decode cX7_pole 4 = .ok (.bipush (-4), 2) := by decide +kernel
theorem dX7_pole_6 : decode cX7_pole 6 = .ok (.istore_n 1, 1) := by decide +kernel
theorem dX7_pole_7 : decode cX7_pole 7 = .ok (.bipush 20, 2) := by decide +kernel
theorem dX7_pole_9 : decode cX7_pole 9 = .ok (.istore_n 2, 1) := by decide +kernel
theorem dX7_pole_10 : decode cX7_pole 10 = .ok (.iload_n 2, 1) := by decide +kernel
theorem dX7_pole_11 : decode cX7_pole 11 = .ok (.ifCond .le 86, 3) := by decide +kernel
theorem dX7_pole_14 : decode cX7_pole 14 = .ok (.iconst 0, 1) := by decide +kernel
theorem dX7_pole_15 : decode cX7_pole 15 = .ok (.istore_n 3, 1) := by decide +kernel
theorem dX7_pole_16 : decode cX7_pole 16 = .ok (.iload_n 3, 1) := by decide +kernel
theorem dX7_pole_17 : decode cX7_pole 17 = .ok (.iconst 4, 1) := by decide +kernel
theorem dX7_pole_18 : decode cX7_pole 18 = .ok (.if_icmp .ge 44, 3) := by decide +kernel
theorem dX7_pole_21 : decode cX7_pole 21 = .ok (.aload_n 0, 1) := by decide +kernel
theorem dX7_pole_22 : decode cX7_pole 22 = .ok (.getfield 22, 3) := by decide +kernel
theorem dX7_pole_25 : decode cX7_pole 25 = .ok (.bipush 16, 2) := by decide +kernel
theorem dX7_pole_27 : decode cX7_pole 27 = .ok (.iload_n 3, 1) := by decide +kernel
theorem dX7_pole_28 : decode cX7_pole 28 = .ok (.iadd, 1) := by decide +kernel
theorem dX7_pole_29 : decode cX7_pole 29 = .ok (.aload_n 0, 1) := by decide +kernel
theorem dX7_pole_30 : decode cX7_pole 30 = .ok (.getfield 22, 3) := by decide +kernel
theorem dX7_pole_33 : decode cX7_pole 33 = .ok (.bipush 16, 2) := by decide +kernel
theorem dX7_pole_35 : decode cX7_pole 35 = .ok (.iload_n 3, 1) := by decide +kernel
theorem dX7_pole_36 : decode cX7_pole 36 = .ok (.iadd, 1) := by decide +kernel
theorem dX7_pole_37 : decode cX7_pole 37 = .ok (.iaload, 1) := by decide +kernel
theorem dX7_pole_38 : decode cX7_pole 38 = .ok (.iload_n 2, 1) := by decide +kernel
theorem dX7_pole_39 : decode cX7_pole 39 = .ok (.if_icmp .le 7, 3) := by decide +kernel
theorem dX7_pole_42 : decode cX7_pole 42 = .ok (.iload_n 2, 1) := by decide +kernel
theorem dX7_pole_43 : decode cX7_pole 43 = .ok (.goto 12, 3) := by decide +kernel
theorem dX7_pole_46 : decode cX7_pole 46 = .ok (.aload_n 0, 1) := by decide +kernel
theorem dX7_pole_47 : decode cX7_pole 47 = .ok (.getfield 22, 3) := by decide +kernel
theorem dX7_pole_50 : decode cX7_pole 50 = .ok (.bipush 16, 2) := by decide +kernel
theorem dX7_pole_52 : decode cX7_pole 52 = .ok (.iload_n 3, 1) := by decide +kernel
theorem dX7_pole_53 : decode cX7_pole 53 = .ok (.iadd, 1) := by decide +kernel
theorem dX7_pole_54 : decode cX7_pole 54 = .ok (.iaload, 1) := by decide +kernel
theorem dX7_pole_55 : decode cX7_pole 55 = .ok (.iastore, 1) := by decide +kernel
theorem dX7_pole_56 : decode cX7_pole 56 = .ok (.iinc 3 1, 3) := by decide +kernel
theorem dX7_pole_59 : decode cX7_pole 59 = .ok (.goto (-43), 3) := by decide +kernel
theorem dX7_pole_62 : decode cX7_pole 62 = .ok (.aload_n 0, 1) := by decide +kernel
theorem dX7_pole_63 : decode cX7_pole 63 = .ok (.bipush 99, 2) := by decide +kernel
theorem dX7_pole_65 : decode cX7_pole 65 = .ok (.invokevirtual 132, 3) := by decide +kernel
theorem dX7_pole_68 : decode cX7_pole 68 = .ok (.iconst 1, 1) := by decide +kernel
theorem dX7_pole_69 : decode cX7_pole 69 = .ok (.aload_n 0, 1) := by decide +kernel
theorem dX7_pole_70 : decode cX7_pole 70 = .ok (.getfield 13, 3) := by decide +kernel
theorem dX7_pole_73 : decode cX7_pole 73 = .ok (.iconst 1, 1) := by decide +kernel
theorem dX7_pole_74 : decode cX7_pole 74 = .ok (.iaload, 1) := by decide +kernel
theorem dX7_pole_75 : decode cX7_pole 75 = .ok (.ishl, 1) := by decide +kernel
theorem dX7_pole_76 : decode cX7_pole 76 = .ok (.iconst 1, 1) := by decide +kernel
theorem dX7_pole_77 : decode cX7_pole 77 = .ok (.isub, 1) := by decide +kernel
theorem dX7_pole_78 : decode cX7_pole 78 = .ok (.if_icmp .ne 7, 3) := by decide +kernel
theorem dX7_pole_81 : decode cX7_pole 81 = .ok (.iload_n 2, 1) := by decide +kernel
theorem dX7_pole_82 : decode cX7_pole 82 = .ok (.goto 4, 3) := by decide +kernel
theorem dX7_pole_85 : decode cX7_pole 85 = .ok (.iload_n 1, 1) := by decide +kernel
theorem dX7_pole_86 : decode cX7_pole 86 = .ok (.istore_n 1, 1) := by decide +kernel
theorem dX7_pole_87 : decode cX7_pole 87 = .ok (.aload_n 0, 1) := by decide +kernel
theorem dX7_pole_88 : decode cX7_pole 88 = .ok (.invokevirtual 135, 3) := by decide +kernel
theorem dX7_pole_91 : decode cX7_pole 91 = .ok (.iinc 2 (-1), 3) := by decide +kernel
theorem dX7_pole_94 : decode cX7_pole 94 = .ok (.goto (-84), 3) := by decide +kernel
theorem dX7_pole_97 : decode cX7_pole 97 = .ok (.iload_n 1, 1) := by decide +kernel
theorem dX7_pole_98 : decode cX7_pole 98 = .ok (.ireturn, 1) := by decide +kernel
theorem dX7_firstOf_0 : decode cX7_firstOf 0 = .ok (.bipush (-4), 2) := by decide +kernel
theorem dX7_firstOf_2 : decode cX7_firstOf 2 = .ok (.istore_n 3, 1) := by decide +kernel
theorem dX7_firstOf_3 : decode cX7_firstOf 3 = .ok (.bipush 99, 2) := by decide +kernel
theorem dX7_firstOf_5 : decode cX7_firstOf 5 = .ok (.istore 4, 2) := by decide +kernel
theorem dX7_firstOf_7 : decode cX7_firstOf 7 = .ok (.iload 4, 2) := by decide +kernel
theorem dX7_firstOf_9 : decode cX7_firstOf 9 = .ok (.aload_n 0, 1) := by decide +kernel
theorem dX7_firstOf_10 : decode cX7_firstOf 10 = .ok (.getfield 22, 3) := by decide +kernel
theorem dX7_firstOf_13 : decode cX7_firstOf 13 = .ok (.bipush 28, 2) := by decide +kernel
theorem dX7_firstOf_15 : decode cX7_firstOf 15 = .ok (.iaload, 1) := by decide +kernel
theorem dX7_firstOf_16 : decode cX7_firstOf 16 = .ok (.if_icmp .lt 40, 3) := by decide +kernel
theorem dX7_firstOf_19 : decode cX7_firstOf 19 = .ok (.aload_n 0, 1) := by decide +kernel
theorem dX7_firstOf_20 : decode cX7_firstOf 20 = .ok (.getfield 22, 3) := by decide +kernel
theorem dX7_firstOf_23 : decode cX7_firstOf 23 = .ok (.bipush 8, 2) := by decide +kernel
theorem dX7_firstOf_25 : decode cX7_firstOf 25 = .ok (.iload_n 2, 1) := by decide +kernel
theorem dX7_firstOf_26 : decode cX7_firstOf 26 = .ok (.iadd, 1) := by decide +kernel
theorem dX7_firstOf_27 : decode cX7_firstOf 27 = .ok (.iaload, 1) := by decide +kernel
theorem dX7_firstOf_28 : decode cX7_firstOf 28 = .ok (.ifCond .ne 20, 3) := by decide +kernel
theorem dX7_firstOf_31 : decode cX7_firstOf 31 = .ok (.aload_n 0, 1) := by decide +kernel
theorem dX7_firstOf_32 : decode cX7_firstOf 32 = .ok (.iload_n 1, 1) := by decide +kernel
theorem dX7_firstOf_33 : decode cX7_firstOf 33 = .ok (.iload_n 2, 1) := by decide +kernel
theorem dX7_firstOf_34 : decode cX7_firstOf 34 = .ok (.iload 4, 2) := by decide +kernel
theorem dX7_firstOf_36 : decode cX7_firstOf 36 = .ok (.iconst 0, 1) := by decide +kernel
theorem dX7_firstOf_37 : decode cX7_firstOf 37 = .ok (.invokevirtual 106, 3) := by decide +kernel
theorem dX7_firstOf_40 : decode cX7_firstOf 40 = .ok (.ifCond .eq 8, 3) := by decide +kernel
theorem dX7_firstOf_43 : decode cX7_firstOf 43 = .ok (.iload 4, 2) := by decide +kernel
theorem dX7_firstOf_45 : decode cX7_firstOf 45 = .ok (.goto 4, 3) := by decide +kernel
theorem dX7_firstOf_48 : decode cX7_firstOf 48 = .ok (.iload_n 3, 1) := by decide +kernel
theorem dX7_firstOf_49 : decode cX7_firstOf 49 = .ok (.istore_n 3, 1) := by decide +kernel
theorem dX7_firstOf_50 : decode cX7_firstOf 50 = .ok (.iinc 4 (-1), 3) := by decide +kernel
theorem dX7_firstOf_53 : decode cX7_firstOf 53 = .ok (.goto (-46), 3) := by decide +kernel
theorem dX7_firstOf_56 : decode cX7_firstOf 56 = .ok (.iload_n 3, 1) := by decide +kernel
theorem dX7_firstOf_57 : decode cX7_firstOf 57 = .ok (.ireturn, 1) := by decide +kernel
theorem dX7_firstDay_0 : decode cX7_firstDay 0 = .ok (.aload_n 0, 1) := by decide +kernel
theorem dX7_firstDay_1 : decode cX7_firstDay 1 = .ok (.iload_n 1, 1) := by decide +kernel
theorem dX7_firstDay_2 : decode cX7_firstDay 2 = .ok (.invokevirtual 100, 3) := by decide +kernel
theorem dX7_firstDay_5 : decode cX7_firstDay 5 = .ok (.ifCond .eq 20, 3) := by decide +kernel
theorem dX7_firstDay_8 : decode cX7_firstDay 8 = .ok (.aload_n 0, 1) := by decide +kernel
theorem dX7_firstDay_9 : decode cX7_firstDay 9 = .ok (.iload_n 2, 1) := by decide +kernel
theorem dX7_firstDay_10 : decode cX7_firstDay 10 = .ok (.invokevirtual 90, 3) := by decide +kernel
theorem dX7_firstDay_13 : decode cX7_firstDay 13 = .ok (.ifCond .eq 12, 3) := by decide +kernel
theorem dX7_firstDay_16 : decode cX7_firstDay 16 = .ok (.aload_n 0, 1) := by decide +kernel
theorem dX7_firstDay_17 : decode cX7_firstDay 17 = .ok (.iload_n 1, 1) := by decide +kernel
theorem dX7_firstDay_18 : decode cX7_firstDay 18 = .ok (.iload_n 2, 1) := by decide +kernel
theorem dX7_firstDay_19 : decode cX7_firstDay 19 = .ok (.invokevirtual 138, 3) := by decide +kernel
theorem dX7_firstDay_22 : decode cX7_firstDay 22 = .ok (.goto 4, 3) := by decide +kernel
theorem dX7_firstDay_25 : decode cX7_firstDay 25 = .ok (.iconst (-1), 1) := by decide +kernel
theorem dX7_firstDay_26 : decode cX7_firstDay 26 = .ok (.ireturn, 1) := by decide +kernel
theorem dX7_sticks_0 : decode cX7_sticks 0 = .ok (.iload_n 1, 1) := by decide +kernel
theorem dX7_sticks_1 : decode cX7_sticks 1 = .ok (.iconst 0, 1) := by decide +kernel
theorem dX7_sticks_2 : decode cX7_sticks 2 = .ok (.bipush 99, 2) := by decide +kernel
theorem dX7_sticks_4 : decode cX7_sticks 4 = .ok (.invokestatic 54, 3) := by decide +kernel
theorem dX7_sticks_7 : decode cX7_sticks 7 = .ok (.ifCond .eq 12, 3) := by decide +kernel
theorem dX7_sticks_10 : decode cX7_sticks 10 = .ok (.iload_n 2, 1) := by decide +kernel
theorem dX7_sticks_11 : decode cX7_sticks 11 = .ok (.iconst 0, 1) := by decide +kernel
theorem dX7_sticks_12 : decode cX7_sticks 12 = .ok (.iconst 1, 1) := by decide +kernel
theorem dX7_sticks_13 : decode cX7_sticks 13 = .ok (.invokestatic 54, 3) := by decide +kernel
theorem dX7_sticks_16 : decode cX7_sticks 16 = .ok (.ifCond .ne 5, 3) := by decide +kernel
theorem dX7_sticks_19 : decode cX7_sticks 19 = .ok (.iconst (-1), 1) := by decide +kernel
theorem dX7_sticks_20 : decode cX7_sticks 20 = .ok (.ireturn, 1) := by decide +kernel
theorem dX7_sticks_21 : decode cX7_sticks 21 = .ok (.iconst 0, 1) := by decide +kernel
theorem dX7_sticks_22 : decode cX7_sticks 22 = .ok (.istore_n 3, 1) := by decide +kernel
theorem dX7_sticks_23 : decode cX7_sticks 23 = .ok (.bipush (-4), 2) := by decide +kernel
theorem dX7_sticks_25 : decode cX7_sticks 25 = .ok (.istore 4, 2) := by decide +kernel
theorem dX7_sticks_27 : decode cX7_sticks 27 = .ok (.iconst 1, 1) := by decide +kernel
theorem dX7_sticks_28 : decode cX7_sticks 28 = .ok (.aload_n 0, 1) := by decide +kernel
theorem dX7_sticks_29 : decode cX7_sticks 29 = .ok (.getfield 13, 3) := by decide +kernel
theorem dX7_sticks_32 : decode cX7_sticks 32 = .ok (.iconst 0, 1) := by decide +kernel
theorem dX7_sticks_33 : decode cX7_sticks 33 = .ok (.iaload, 1) := by decide +kernel
theorem dX7_sticks_34 : decode cX7_sticks 34 = .ok (.ishl, 1) := by decide +kernel
theorem dX7_sticks_35 : decode cX7_sticks 35 = .ok (.iconst 1, 1) := by decide +kernel
theorem dX7_sticks_36 : decode cX7_sticks 36 = .ok (.isub, 1) := by decide +kernel
theorem dX7_sticks_37 : decode cX7_sticks 37 = .ok (.istore 5, 2) := by decide +kernel
theorem dX7_sticks_39 : decode cX7_sticks 39 = .ok (.iload 5, 2) := by decide +kernel
theorem dX7_sticks_41 : decode cX7_sticks 41 = .ok (.ifCond .lt 147, 3) := by decide +kernel
theorem dX7_sticks_44 : decode cX7_sticks 44 = .ok (.iconst 0, 1) := by decide +kernel
theorem dX7_sticks_45 : decode cX7_sticks 45 = .ok (.istore 6, 2) := by decide +kernel
theorem dX7_sticks_47 : decode cX7_sticks 47 = .ok (.iconst 1, 1) := by decide +kernel
theorem dX7_sticks_48 : decode cX7_sticks 48 = .ok (.istore 7, 2) := by decide +kernel
theorem dX7_sticks_50 : decode cX7_sticks 50 = .ok (.iconst 0, 1) := by decide +kernel
theorem dX7_sticks_51 : decode cX7_sticks 51 = .ok (.istore 8, 2) := by decide +kernel
theorem dX7_sticks_53 : decode cX7_sticks 53 = .ok (.iload 8, 2) := by decide +kernel
theorem dX7_sticks_55 : decode cX7_sticks 55 = .ok (.aload_n 0, 1) := by decide +kernel
theorem dX7_sticks_56 : decode cX7_sticks 56 = .ok (.getfield 13, 3) := by decide +kernel
theorem dX7_sticks_59 : decode cX7_sticks 59 = .ok (.iconst 0, 1) := by decide +kernel
theorem dX7_sticks_60 : decode cX7_sticks 60 = .ok (.iaload, 1) := by decide +kernel
theorem dX7_sticks_61 : decode cX7_sticks 61 = .ok (.if_icmp .ge 82, 3) := by decide +kernel
theorem dX7_sticks_64 : decode cX7_sticks 64 = .ok (.iload 5, 2) := by decide +kernel
theorem dX7_sticks_66 : decode cX7_sticks 66 = .ok (.iload 8, 2) := by decide +kernel
theorem dX7_sticks_68 : decode cX7_sticks 68 = .ok (.ishr, 1) := by decide +kernel
theorem dX7_sticks_69 : decode cX7_sticks 69 = .ok (.iconst 1, 1) := by decide +kernel
theorem dX7_sticks_70 : decode cX7_sticks 70 = .ok (.iand, 1) := by decide +kernel
theorem dX7_sticks_71 : decode cX7_sticks 71 = .ok (.iconst 1, 1) := by decide +kernel
theorem dX7_sticks_72 : decode cX7_sticks 72 = .ok (.if_icmp .ne 7, 3) := by decide +kernel
theorem dX7_sticks_75 : decode cX7_sticks 75 = .ok (.iconst 1, 1) := by decide +kernel
theorem dX7_sticks_76 : decode cX7_sticks 76 = .ok (.goto 4, 3) := by decide +kernel
theorem dX7_sticks_79 : decode cX7_sticks 79 = .ok (.iconst 0, 1) := by decide +kernel
theorem dX7_sticks_80 : decode cX7_sticks 80 = .ok (.istore 9, 2) := by decide +kernel
theorem dX7_sticks_82 : decode cX7_sticks 82 = .ok (.iload 7, 2) := by decide +kernel
theorem dX7_sticks_84 : decode cX7_sticks 84 = .ok (.ifCond .eq 26, 3) := by decide +kernel
theorem dX7_sticks_87 : decode cX7_sticks 87 = .ok (.iload 9, 2) := by decide +kernel
theorem dX7_sticks_89 : decode cX7_sticks 89 = .ok (.ifCond .eq 17, 3) := by decide +kernel
theorem dX7_sticks_92 : decode cX7_sticks 92 = .ok (.aload_n 0, 1) := by decide +kernel
theorem dX7_sticks_93 : decode cX7_sticks 93 = .ok (.getfield 22, 3) := by decide +kernel
theorem dX7_sticks_96 : decode cX7_sticks 96 = .ok (.bipush 8, 2) := by decide +kernel
theorem dX7_sticks_98 : decode cX7_sticks 98 = .ok (.iload 8, 2) := by decide +kernel
theorem dX7_sticks_100 : decode cX7_sticks 100 = .ok (.iadd, 1) := by decide +kernel
theorem dX7_sticks_101 : decode cX7_sticks 101 = .ok (.iaload, 1) := by decide +kernel
theorem dX7_sticks_102 : decode cX7_sticks 102 = .ok (.iconst 1, 1) := by decide +kernel
theorem dX7_sticks_103 : decode cX7_sticks 103 = .ok (.if_icmp .ne 7, 3) := by decide +kernel
theorem dX7_sticks_106 : decode cX7_sticks 106 = .ok (.iconst 1, 1) := by decide +kernel
theorem dX7_sticks_107 : decode cX7_sticks 107 = .ok (.goto 4, 3) := by decide +kernel
theorem dX7_sticks_110 : decode cX7_sticks 110 = .ok (.iconst 0, 1) := by decide +kernel
theorem dX7_sticks_111 : decode cX7_sticks 111 = .ok (.istore 7, 2) := by decide +kernel
theorem dX7_sticks_113 : decode cX7_sticks 113 = .ok (.iload 6, 2) := by decide +kernel
theorem dX7_sticks_115 : decode cX7_sticks 115 = .ok (.iload 9, 2) := by decide +kernel
theorem dX7_sticks_117 : decode cX7_sticks 117 = .ok (.ifCond .eq 16, 3) := by decide +kernel
theorem dX7_sticks_120 : decode cX7_sticks 120 = .ok (.aload_n 0, 1) := by decide +kernel
theorem dX7_sticks_121 : decode cX7_sticks 121 = .ok (.getfield 13, 3) := by decide +kernel
theorem dX7_sticks_124 : decode cX7_sticks 124 = .ok (.bipush 21, 2) := by decide +kernel
theorem dX7_sticks_126 : decode cX7_sticks 126 = .ok (.iload 8, 2) := by decide +kernel
theorem dX7_sticks_128 : decode cX7_sticks 128 = .ok (.iadd, 1) := by decide +kernel
theorem dX7_sticks_129 : decode cX7_sticks 129 = .ok (.iaload, 1) := by decide +kernel
theorem dX7_sticks_130 : decode cX7_sticks 130 = .ok (.goto 4, 3) := by decide +kernel
theorem dX7_sticks_133 : decode cX7_sticks 133 = .ok (.iconst 0, 1) := by decide +kernel
theorem dX7_sticks_134 : decode cX7_sticks 134 = .ok (.iadd, 1) := by decide +kernel
theorem dX7_sticks_135 : decode cX7_sticks 135 = .ok (.istore 6, 2) := by decide +kernel
