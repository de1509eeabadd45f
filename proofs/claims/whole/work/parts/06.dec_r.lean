theorem dc_R_firstError_0 : decode bc_R_firstError 0 = .ok (.aload_n 0, 1) := by decide +kernel
theorem dc_R_firstError_1 : decode bc_R_firstError 1 = .ok (.iload_n 1, 1) := by decide +kernel
theorem dc_R_firstError_2 : decode bc_R_firstError 2 = .ok (.putfield 19, 3) := by decide +kernel
theorem dc_R_firstError_5 : decode bc_R_firstError 5 = .ok (.aload_n 0, 1) := by decide +kernel
theorem dc_R_firstError_6 : decode bc_R_firstError 6 = .ok (.iload_n 1, 1) := by decide +kernel
theorem dc_R_firstError_7 : decode bc_R_firstError 7 = .ok (.bipush 41, 2) := by decide +kernel
theorem dc_R_firstError_9 : decode bc_R_firstError 9 = .ok (.imul, 1) := by decide +kernel
theorem dc_R_firstError_10 : decode bc_R_firstError 10 = .ok (.putfield 22, 3) := by decide +kernel
theorem dc_R_firstError_13 : decode bc_R_firstError 13 = .ok (.aload_n 0, 1) := by decide +kernel
theorem dc_R_firstError_14 : decode bc_R_firstError 14 = .ok (.iconst (-1), 1) := by decide +kernel
theorem dc_R_firstError_15 : decode bc_R_firstError 15 = .ok (.putfield 15, 3) := by decide +kernel
theorem dc_R_firstError_18 : decode bc_R_firstError 18 = .ok (.aload_n 0, 1) := by decide +kernel
theorem dc_R_firstError_19 : decode bc_R_firstError 19 = .ok (.iconst 0, 1) := by decide +kernel
theorem dc_R_firstError_20 : decode bc_R_firstError 20 = .ok (.invokevirtual 25, 3) := by decide +kernel
theorem dc_R_firstError_23 : decode bc_R_firstError 23 = .ok (.aload_n 0, 1) := by decide +kernel
theorem dc_R_firstError_24 : decode bc_R_firstError 24 = .ok (.getfield 15, 3) := by decide +kernel
theorem dc_R_firstError_27 : decode bc_R_firstError 27 = .ok (.iconst (-1), 1) := by decide +kernel
theorem dc_R_firstError_28 : decode bc_R_firstError 28 = .ok (.if_icmp .ne 7, 3) := by decide +kernel
theorem dc_R_firstError_31 : decode bc_R_firstError 31 = .ok (.iconst (-1), 1) := by decide +kernel
theorem dc_R_firstError_32 : decode bc_R_firstError 32 = .ok (.goto 12, 3) := by decide +kernel
theorem dc_R_firstError_35 : decode bc_R_firstError 35 = .ok (.aload_n 0, 1) := by decide +kernel
theorem dc_R_firstError_36 : decode bc_R_firstError 36 = .ok (.getfield 15, 3) := by decide +kernel
theorem dc_R_firstError_39 : decode bc_R_firstError 39 = .ok (.iload_n 1, 1) := by decide +kernel
theorem dc_R_firstError_40 : decode bc_R_firstError 40 = .ok (.bipush 41, 2) := by decide +kernel
theorem dc_R_firstError_42 : decode bc_R_firstError 42 = .ok (.imul, 1) := by decide +kernel
theorem dc_R_firstError_43 : decode bc_R_firstError 43 = .ok (.isub, 1) := by decide +kernel
theorem dc_R_firstError_44 : decode bc_R_firstError 44 = .ok (.ireturn, 1) := by decide +kernel
theorem dc_R_readList_0 : decode bc_R_readList 0 = .ok (.iconst 0, 1) := by decide +kernel
theorem dc_R_readList_1 : decode bc_R_readList 1 = .ok (.istore_n 2, 1) := by decide +kernel
theorem dc_R_readList_2 : decode bc_R_readList 2 = .ok (.iload_n 2, 1) := by decide +kernel
theorem dc_R_readList_3 : decode bc_R_readList 3 = .ok (.bipush 40, 2) := by decide +kernel
theorem dc_R_readList_5 : decode bc_R_readList 5 = .ok (.if_icmp .gt 73, 3) := by decide +kernel
theorem dc_R_readList_8 : decode bc_R_readList 8 = .ok (.aload_n 0, 1) := by decide +kernel
theorem dc_R_readList_9 : decode bc_R_readList 9 = .ok (.getfield 15, 3) := by decide +kernel
theorem dc_R_readList_12 : decode bc_R_readList 12 = .ok (.iconst (-1), 1) := by decide +kernel
theorem dc_R_readList_13 : decode bc_R_readList 13 = .ok (.if_icmp .ne 65, 3) := by decide +kernel
theorem dc_R_readList_16 : decode bc_R_readList 16 = .ok (.aload_n 0, 1) := by decide +kernel
theorem dc_R_readList_17 : decode bc_R_readList 17 = .ok (.getfield 9, 3) := by decide +kernel
theorem dc_R_readList_20 : decode bc_R_readList 20 = .ok (.aload_n 0, 1) := by decide +kernel
theorem dc_R_readList_21 : decode bc_R_readList 21 = .ok (.getfield 22, 3) := by decide +kernel
theorem dc_R_readList_24 : decode bc_R_readList 24 = .ok (.invokevirtual 29, 3) := by decide +kernel
theorem dc_R_readList_27 : decode bc_R_readList 27 = .ok (.istore_n 3, 1) := by decide +kernel
theorem dc_R_readList_28 : decode bc_R_readList 28 = .ok (.iload_n 3, 1) := by decide +kernel
theorem dc_R_readList_29 : decode bc_R_readList 29 = .ok (.ifCond .ne 16, 3) := by decide +kernel
theorem dc_R_readList_32 : decode bc_R_readList 32 = .ok (.iload_n 1, 1) := by decide +kernel
theorem dc_R_readList_33 : decode bc_R_readList 33 = .ok (.ifCond .le 11, 3) := by decide +kernel
theorem dc_R_readList_36 : decode bc_R_readList 36 = .ok (.aload_n 0, 1) := by decide +kernel
theorem dc_R_readList_37 : decode bc_R_readList 37 = .ok (.aload_n 0, 1) := by decide +kernel
theorem dc_R_readList_38 : decode bc_R_readList 38 = .ok (.getfield 22, 3) := by decide +kernel
theorem dc_R_readList_41 : decode bc_R_readList 41 = .ok (.putfield 15, 3) := by decide +kernel
theorem dc_R_readList_44 : decode bc_R_readList 44 = .ok (.return_, 1) := by decide +kernel
theorem dc_R_readList_45 : decode bc_R_readList 45 = .ok (.iload_n 3, 1) := by decide +kernel
theorem dc_R_readList_46 : decode bc_R_readList 46 = .ok (.bipush 41, 2) := by decide +kernel
theorem dc_R_readList_48 : decode bc_R_readList 48 = .ok (.if_icmp .ne 18, 3) := by decide +kernel
theorem dc_R_readList_51 : decode bc_R_readList 51 = .ok (.iload_n 1, 1) := by decide +kernel
theorem dc_R_readList_52 : decode bc_R_readList 52 = .ok (.ifCond .le 14, 3) := by decide +kernel
theorem dc_R_readList_55 : decode bc_R_readList 55 = .ok (.aload_n 0, 1) := by decide +kernel
theorem dc_R_readList_56 : decode bc_R_readList 56 = .ok (.dup, 1) := by decide +kernel
theorem dc_R_readList_57 : decode bc_R_readList 57 = .ok (.getfield 22, 3) := by decide +kernel
theorem dc_R_readList_60 : decode bc_R_readList 60 = .ok (.iconst 1, 1) := by decide +kernel
theorem dc_R_readList_61 : decode bc_R_readList 61 = .ok (.iadd, 1) := by decide +kernel
theorem dc_R_readList_62 : decode bc_R_readList 62 = .ok (.putfield 22, 3) := by decide +kernel
theorem dc_R_readList_65 : decode bc_R_readList 65 = .ok (.return_, 1) := by decide +kernel
theorem dc_R_readList_66 : decode bc_R_readList 66 = .ok (.aload_n 0, 1) := by decide +kernel
theorem dc_R_readList_67 : decode bc_R_readList 67 = .ok (.iload_n 3, 1) := by decide +kernel
theorem dc_R_readList_68 : decode bc_R_readList 68 = .ok (.iload_n 1, 1) := by decide +kernel
theorem dc_R_readList_69 : decode bc_R_readList 69 = .ok (.invokevirtual 35, 3) := by decide +kernel
theorem dc_R_readList_72 : decode bc_R_readList 72 = .ok (.iinc 2 1, 3) := by decide +kernel
theorem dc_R_readList_75 : decode bc_R_readList 75 = .ok (.goto (-73), 3) := by decide +kernel
theorem dc_R_readList_78 : decode bc_R_readList 78 = .ok (.return_, 1) := by decide +kernel
theorem dc_R_readStep_0 : decode bc_R_readStep 0 = .ok (.aload_n 0, 1) := by decide +kernel
theorem dc_R_readStep_1 : decode bc_R_readStep 1 = .ok (.getfield 22, 3) := by decide +kernel
theorem dc_R_readStep_4 : decode bc_R_readStep 4 = .ok (.istore_n 3, 1) := by decide +kernel
theorem dc_R_readStep_5 : decode bc_R_readStep 5 = .ok (.aload_n 0, 1) := by decide +kernel
theorem dc_R_readStep_6 : decode bc_R_readStep 6 = .ok (.dup, 1) := by decide +kernel
theorem dc_R_readStep_7 : decode bc_R_readStep 7 = .ok (.getfield 22, 3) := by decide +kernel
theorem dc_R_readStep_10 : decode bc_R_readStep 10 = .ok (.iconst 1, 1) := by decide +kernel
theorem dc_R_readStep_11 : decode bc_R_readStep 11 = .ok (.iadd, 1) := by decide +kernel
theorem dc_R_readStep_12 : decode bc_R_readStep 12 = .ok (.putfield 22, 3) := by decide +kernel
theorem dc_R_readStep_15 : decode bc_R_readStep 15 = .ok (.iload_n 1, 1) := by decide +kernel
theorem dc_R_readStep_16 : decode bc_R_readStep 16 = .ok (.lookupswitch 254 #[(33, 154), (38, 171), (42, 135), (43, 135), (45, 135), (62, 188), (63, 218), (97, 236), (98, 132), (102, 210), (105, 132), (107, 132), (113, 245), (114, 132), (115, 227)], 132) := by decide +kernel
theorem dc_R_readStep_148 : decode bc_R_readStep 148 = .ok (.goto 127, 3) := by decide +kernel
theorem dc_R_readStep_151 : decode bc_R_readStep 151 = .ok (.aload_n 0, 1) := by decide +kernel
theorem dc_R_readStep_152 : decode bc_R_readStep 152 = .ok (.aload_n 0, 1) := by decide +kernel
theorem dc_R_readStep_153 : decode bc_R_readStep 153 = .ok (.getfield 9, 3) := by decide +kernel
theorem dc_R_readStep_156 : decode bc_R_readStep 156 = .ok (.getfield 39, 3) := by decide +kernel
theorem dc_R_readStep_159 : decode bc_R_readStep 159 = .ok (.iload_n 3, 1) := by decide +kernel
theorem dc_R_readStep_160 : decode bc_R_readStep 160 = .ok (.iconst 0, 1) := by decide +kernel
theorem dc_R_readStep_161 : decode bc_R_readStep 161 = .ok (.sipush 9999, 3) := by decide +kernel
theorem dc_R_readStep_164 : decode bc_R_readStep 164 = .ok (.invokevirtual 43, 3) := by decide +kernel
theorem dc_R_readStep_167 : decode bc_R_readStep 167 = .ok (.goto 108, 3) := by decide +kernel
theorem dc_R_readStep_170 : decode bc_R_readStep 170 = .ok (.aload_n 0, 1) := by decide +kernel
theorem dc_R_readStep_171 : decode bc_R_readStep 171 = .ok (.aload_n 0, 1) := by decide +kernel
theorem dc_R_readStep_172 : decode bc_R_readStep 172 = .ok (.getfield 9, 3) := by decide +kernel
theorem dc_R_readStep_175 : decode bc_R_readStep 175 = .ok (.getfield 39, 3) := by decide +kernel
theorem dc_R_readStep_178 : decode bc_R_readStep 178 = .ok (.iload_n 3, 1) := by decide +kernel
theorem dc_R_readStep_179 : decode bc_R_readStep 179 = .ok (.iconst 0, 1) := by decide +kernel
theorem dc_R_readStep_180 : decode bc_R_readStep 180 = .ok (.iconst 3, 1) := by decide +kernel
theorem dc_R_readStep_181 : decode bc_R_readStep 181 = .ok (.invokevirtual 43, 3) := by decide +kernel
theorem dc_R_readStep_184 : decode bc_R_readStep 184 = .ok (.goto 91, 3) := by decide +kernel
theorem dc_R_readStep_187 : decode bc_R_readStep 187 = .ok (.aload_n 0, 1) := by decide +kernel
theorem dc_R_readStep_188 : decode bc_R_readStep 188 = .ok (.aload_n 0, 1) := by decide +kernel
theorem dc_R_readStep_189 : decode bc_R_readStep 189 = .ok (.getfield 9, 3) := by decide +kernel
theorem dc_R_readStep_192 : decode bc_R_readStep 192 = .ok (.getfield 39, 3) := by decide +kernel
theorem dc_R_readStep_195 : decode bc_R_readStep 195 = .ok (.iload_n 3, 1) := by decide +kernel
theorem dc_R_readStep_196 : decode bc_R_readStep 196 = .ok (.iconst 0, 1) := by decide +kernel
theorem dc_R_readStep_197 : decode bc_R_readStep 197 = .ok (.iconst 3, 1) := by decide +kernel
theorem dc_R_readStep_198 : decode bc_R_readStep 198 = .ok (.invokevirtual 43, 3) := by decide +kernel
theorem dc_R_readStep_201 : decode bc_R_readStep 201 = .ok (.goto 74, 3) := by decide +kernel
theorem dc_R_readStep_204 : decode bc_R_readStep 204 = .ok (.aload_n 0, 1) := by decide +kernel
theorem dc_R_readStep_205 : decode bc_R_readStep 205 = .ok (.aload_n 0, 1) := by decide +kernel
theorem dc_R_readStep_206 : decode bc_R_readStep 206 = .ok (.getfield 9, 3) := by decide +kernel
theorem dc_R_readStep_209 : decode bc_R_readStep 209 = .ok (.getfield 39, 3) := by decide +kernel
theorem dc_R_readStep_212 : decode bc_R_readStep 212 = .ok (.iload_n 3, 1) := by decide +kernel
theorem dc_R_readStep_213 : decode bc_R_readStep 213 = .ok (.aload_n 0, 1) := by decide +kernel
theorem dc_R_readStep_214 : decode bc_R_readStep 214 = .ok (.getfield 19, 3) := by decide +kernel
theorem dc_R_readStep_217 : decode bc_R_readStep 217 = .ok (.iconst 1, 1) := by decide +kernel
theorem dc_R_readStep_218 : decode bc_R_readStep 218 = .ok (.iadd, 1) := by decide +kernel
theorem dc_R_readStep_219 : decode bc_R_readStep 219 = .ok (.iconst 3, 1) := by decide +kernel
theorem dc_R_readStep_220 : decode bc_R_readStep 220 = .ok (.invokevirtual 43, 3) := by decide +kernel
theorem dc_R_readStep_223 : decode bc_R_readStep 223 = .ok (.goto 52, 3) := by decide +kernel
theorem dc_R_readStep_226 : decode bc_R_readStep 226 = .ok (.aload_n 0, 1) := by decide +kernel
theorem dc_R_readStep_227 : decode bc_R_readStep 227 = .ok (.iload_n 3, 1) := by decide +kernel
theorem dc_R_readStep_228 : decode bc_R_readStep 228 = .ok (.invokevirtual 47, 3) := by decide +kernel
theorem dc_R_readStep_231 : decode bc_R_readStep 231 = .ok (.goto 44, 3) := by decide +kernel
theorem dc_R_readStep_234 : decode bc_R_readStep 234 = .ok (.aload_n 0, 1) := by decide +kernel
theorem dc_R_readStep_235 : decode bc_R_readStep 235 = .ok (.iload_n 3, 1) := by decide +kernel
theorem dc_R_readStep_236 : decode bc_R_readStep 236 = .ok (.iload_n 2, 1) := by decide +kernel
theorem dc_R_readStep_237 : decode bc_R_readStep 237 = .ok (.invokevirtual 50, 3) := by decide +kernel
theorem dc_R_readStep_240 : decode bc_R_readStep 240 = .ok (.goto 35, 3) := by decide +kernel
theorem dc_R_readStep_243 : decode bc_R_readStep 243 = .ok (.aload_n 0, 1) := by decide +kernel
theorem dc_R_readStep_244 : decode bc_R_readStep 244 = .ok (.iload_n 3, 1) := by decide +kernel
theorem dc_R_readStep_245 : decode bc_R_readStep 245 = .ok (.iload_n 2, 1) := by decide +kernel
theorem dc_R_readStep_246 : decode bc_R_readStep 246 = .ok (.invokevirtual 54, 3) := by decide +kernel
theorem dc_R_readStep_249 : decode bc_R_readStep 249 = .ok (.goto 26, 3) := by decide +kernel
theorem dc_R_readStep_252 : decode bc_R_readStep 252 = .ok (.aload_n 0, 1) := by decide +kernel
theorem dc_R_readStep_253 : decode bc_R_readStep 253 = .ok (.iload_n 3, 1) := by decide +kernel
theorem dc_R_readStep_254 : decode bc_R_readStep 254 = .ok (.iload_n 2, 1) := by decide +kernel
theorem dc_R_readStep_255 : decode bc_R_readStep 255 = .ok (.invokevirtual 57, 3) := by decide +kernel
theorem dc_R_readStep_258 : decode bc_R_readStep 258 = .ok (.goto 17, 3) := by decide +kernel
theorem dc_R_readStep_261 : decode bc_R_readStep 261 = .ok (.aload_n 0, 1) := by decide +kernel
theorem dc_R_readStep_262 : decode bc_R_readStep 262 = .ok (.iload_n 3, 1) := by decide +kernel
theorem dc_R_readStep_263 : decode bc_R_readStep 263 = .ok (.iload_n 2, 1) := by decide +kernel
theorem dc_R_readStep_264 : decode bc_R_readStep 264 = .ok (.invokevirtual 60, 3) := by decide +kernel
theorem dc_R_readStep_267 : decode bc_R_readStep 267 = .ok (.goto 8, 3) := by decide +kernel
theorem dc_R_readStep_270 : decode bc_R_readStep 270 = .ok (.aload_n 0, 1) := by decide +kernel
theorem dc_R_readStep_271 : decode bc_R_readStep 271 = .ok (.iload_n 3, 1) := by decide +kernel
theorem dc_R_readStep_272 : decode bc_R_readStep 272 = .ok (.putfield 15, 3) := by decide +kernel
theorem dc_R_readStep_275 : decode bc_R_readStep 275 = .ok (.aload_n 0, 1) := by decide +kernel
theorem dc_R_readStep_276 : decode bc_R_readStep 276 = .ok (.getfield 9, 3) := by decide +kernel
theorem dc_R_readStep_279 : decode bc_R_readStep 279 = .ok (.getfield 63, 3) := by decide +kernel
theorem dc_R_readStep_282 : decode bc_R_readStep 282 = .ok (.iload_n 3, 1) := by decide +kernel
theorem dc_R_readStep_283 : decode bc_R_readStep 283 = .ok (.aload_n 0, 1) := by decide +kernel
theorem dc_R_readStep_284 : decode bc_R_readStep 284 = .ok (.getfield 22, 3) := by decide +kernel
theorem dc_R_readStep_287 : decode bc_R_readStep 287 = .ok (.iastore, 1) := by decide +kernel
theorem dc_R_readStep_288 : decode bc_R_readStep 288 = .ok (.return_, 1) := by decide +kernel
theorem dc_R_readNumber_0 : decode bc_R_readNumber 0 = .ok (.aload_n 0, 1) := by decide +kernel
theorem dc_R_readNumber_1 : decode bc_R_readNumber 1 = .ok (.getfield 15, 3) := by decide +kernel
theorem dc_R_readNumber_4 : decode bc_R_readNumber 4 = .ok (.iconst (-1), 1) := by decide +kernel
theorem dc_R_readNumber_5 : decode bc_R_readNumber 5 = .ok (.if_icmp .eq 4, 3) := by decide +kernel
theorem dc_R_readNumber_8 : decode bc_R_readNumber 8 = .ok (.return_, 1) := by decide +kernel
theorem dc_R_readNumber_9 : decode bc_R_readNumber 9 = .ok (.aload_n 0, 1) := by decide +kernel
theorem dc_R_readNumber_10 : decode bc_R_readNumber 10 = .ok (.getfield 22, 3) := by decide +kernel
theorem dc_R_readNumber_13 : decode bc_R_readNumber 13 = .ok (.istore 5, 2) := by decide +kernel
theorem dc_R_readNumber_15 : decode bc_R_readNumber 15 = .ok (.iconst 0, 1) := by decide +kernel
theorem dc_R_readNumber_16 : decode bc_R_readNumber 16 = .ok (.istore 6, 2) := by decide +kernel
theorem dc_R_readNumber_18 : decode bc_R_readNumber 18 = .ok (.iconst 0, 1) := by decide +kernel
theorem dc_R_readNumber_19 : decode bc_R_readNumber 19 = .ok (.istore 7, 2) := by decide +kernel
theorem dc_R_readNumber_21 : decode bc_R_readNumber 21 = .ok (.iload 7, 2) := by decide +kernel
theorem dc_R_readNumber_23 : decode bc_R_readNumber 23 = .ok (.iconst 4, 1) := by decide +kernel
theorem dc_R_readNumber_24 : decode bc_R_readNumber 24 = .ok (.if_icmp .ge 62, 3) := by decide +kernel
theorem dc_R_readNumber_27 : decode bc_R_readNumber 27 = .ok (.aload_n 0, 1) := by decide +kernel
theorem dc_R_readNumber_28 : decode bc_R_readNumber 28 = .ok (.getfield 9, 3) := by decide +kernel
theorem dc_R_readNumber_31 : decode bc_R_readNumber 31 = .ok (.aload_n 0, 1) := by decide +kernel
theorem dc_R_readNumber_32 : decode bc_R_readNumber 32 = .ok (.getfield 22, 3) := by decide +kernel
theorem dc_R_readNumber_35 : decode bc_R_readNumber 35 = .ok (.invokevirtual 29, 3) := by decide +kernel
theorem dc_R_readNumber_38 : decode bc_R_readNumber 38 = .ok (.istore 8, 2) := by decide +kernel
theorem dc_R_readNumber_40 : decode bc_R_readNumber 40 = .ok (.iload 8, 2) := by decide +kernel
theorem dc_R_readNumber_42 : decode bc_R_readNumber 42 = .ok (.bipush 48, 2) := by decide +kernel
theorem dc_R_readNumber_44 : decode bc_R_readNumber 44 = .ok (.if_icmp .lt 42, 3) := by decide +kernel
theorem dc_R_readNumber_47 : decode bc_R_readNumber 47 = .ok (.iload 8, 2) := by decide +kernel
theorem dc_R_readNumber_49 : decode bc_R_readNumber 49 = .ok (.bipush 57, 2) := by decide +kernel
theorem dc_R_readNumber_51 : decode bc_R_readNumber 51 = .ok (.if_icmp .le 6, 3) := by decide +kernel
theorem dc_R_readNumber_54 : decode bc_R_readNumber 54 = .ok (.goto 32, 3) := by decide +kernel
theorem dc_R_readNumber_57 : decode bc_R_readNumber 57 = .ok (.iload 6, 2) := by decide +kernel
theorem dc_R_readNumber_59 : decode bc_R_readNumber 59 = .ok (.bipush 10, 2) := by decide +kernel
theorem dc_R_readNumber_61 : decode bc_R_readNumber 61 = .ok (.imul, 1) := by decide +kernel
theorem dc_R_readNumber_62 : decode bc_R_readNumber 62 = .ok (.iload 8, 2) := by decide +kernel
theorem dc_R_readNumber_64 : decode bc_R_readNumber 64 = .ok (.bipush 48, 2) := by decide +kernel
theorem dc_R_readNumber_66 : decode bc_R_readNumber 66 = .ok (.isub, 1) := by decide +kernel
theorem dc_R_readNumber_67 : decode bc_R_readNumber 67 = .ok (.iadd, 1) := by decide +kernel
theorem dc_R_readNumber_68 : decode bc_R_readNumber 68 = .ok (.istore 6, 2) := by decide +kernel
theorem dc_R_readNumber_70 : decode bc_R_readNumber 70 = .ok (.aload_n 0, 1) := by decide +kernel
theorem dc_R_readNumber_71 : decode bc_R_readNumber 71 = .ok (.dup, 1) := by decide +kernel
theorem dc_R_readNumber_72 : decode bc_R_readNumber 72 = .ok (.getfield 22, 3) := by decide +kernel
theorem dc_R_readNumber_75 : decode bc_R_readNumber 75 = .ok (.iconst 1, 1) := by decide +kernel
theorem dc_R_readNumber_76 : decode bc_R_readNumber 76 = .ok (.iadd, 1) := by decide +kernel
theorem dc_R_readNumber_77 : decode bc_R_readNumber 77 = .ok (.putfield 22, 3) := by decide +kernel
theorem dc_R_readNumber_80 : decode bc_R_readNumber 80 = .ok (.iinc 7 1, 3) := by decide +kernel
theorem dc_R_readNumber_83 : decode bc_R_readNumber 83 = .ok (.goto (-62), 3) := by decide +kernel
theorem dc_R_readNumber_86 : decode bc_R_readNumber 86 = .ok (.aload_n 0, 1) := by decide +kernel
theorem dc_R_readNumber_87 : decode bc_R_readNumber 87 = .ok (.getfield 22, 3) := by decide +kernel
theorem dc_R_readNumber_90 : decode bc_R_readNumber 90 = .ok (.iload 5, 2) := by decide +kernel
theorem dc_R_readNumber_92 : decode bc_R_readNumber 92 = .ok (.if_icmp .eq 16, 3) := by decide +kernel
theorem dc_R_readNumber_95 : decode bc_R_readNumber 95 = .ok (.iload 6, 2) := by decide +kernel
theorem dc_R_readNumber_97 : decode bc_R_readNumber 97 = .ok (.iload_n 3, 1) := by decide +kernel
theorem dc_R_readNumber_98 : decode bc_R_readNumber 98 = .ok (.if_icmp .lt 10, 3) := by decide +kernel
theorem dc_R_readNumber_101 : decode bc_R_readNumber 101 = .ok (.iload 6, 2) := by decide +kernel
theorem dc_R_readNumber_103 : decode bc_R_readNumber 103 = .ok (.iload 4, 2) := by decide +kernel
theorem dc_R_readNumber_105 : decode bc_R_readNumber 105 = .ok (.if_icmp .le 9, 3) := by decide +kernel
theorem dc_R_readNumber_108 : decode bc_R_readNumber 108 = .ok (.aload_n 0, 1) := by decide +kernel
theorem dc_R_readNumber_109 : decode bc_R_readNumber 109 = .ok (.iload 5, 2) := by decide +kernel
theorem dc_R_readNumber_111 : decode bc_R_readNumber 111 = .ok (.putfield 15, 3) := by decide +kernel
theorem dc_R_readNumber_114 : decode bc_R_readNumber 114 = .ok (.aload_n 1, 1) := by decide +kernel
theorem dc_R_readNumber_115 : decode bc_R_readNumber 115 = .ok (.iload_n 2, 1) := by decide +kernel
theorem dc_R_readNumber_116 : decode bc_R_readNumber 116 = .ok (.iload 6, 2) := by decide +kernel
theorem dc_R_readNumber_118 : decode bc_R_readNumber 118 = .ok (.iastore, 1) := by decide +kernel
theorem dc_R_readNumber_119 : decode bc_R_readNumber 119 = .ok (.return_, 1) := by decide +kernel
theorem dc_R_readOneOf_0 : decode bc_R_readOneOf 0 = .ok (.aload_n 0, 1) := by decide +kernel
theorem dc_R_readOneOf_1 : decode bc_R_readOneOf 1 = .ok (.getfield 15, 3) := by decide +kernel
theorem dc_R_readOneOf_4 : decode bc_R_readOneOf 4 = .ok (.iconst (-1), 1) := by decide +kernel
theorem dc_R_readOneOf_5 : decode bc_R_readOneOf 5 = .ok (.if_icmp .eq 4, 3) := by decide +kernel
theorem dc_R_readOneOf_8 : decode bc_R_readOneOf 8 = .ok (.return_, 1) := by decide +kernel
theorem dc_R_readOneOf_9 : decode bc_R_readOneOf 9 = .ok (.aload_n 1, 1) := by decide +kernel
theorem dc_R_readOneOf_10 : decode bc_R_readOneOf 10 = .ok (.aload_n 0, 1) := by decide +kernel
theorem dc_R_readOneOf_11 : decode bc_R_readOneOf 11 = .ok (.getfield 9, 3) := by decide +kernel
theorem dc_R_readOneOf_14 : decode bc_R_readOneOf 14 = .ok (.aload_n 0, 1) := by decide +kernel
theorem dc_R_readOneOf_15 : decode bc_R_readOneOf 15 = .ok (.getfield 22, 3) := by decide +kernel
theorem dc_R_readOneOf_18 : decode bc_R_readOneOf 18 = .ok (.invokevirtual 29, 3) := by decide +kernel
theorem dc_R_readOneOf_21 : decode bc_R_readOneOf 21 = .ok (.invokevirtual 66, 3) := by decide +kernel
theorem dc_R_readOneOf_24 : decode bc_R_readOneOf 24 = .ok (.ifCond .lt 16, 3) := by decide +kernel
theorem dc_R_readOneOf_27 : decode bc_R_readOneOf 27 = .ok (.aload_n 0, 1) := by decide +kernel
theorem dc_R_readOneOf_28 : decode bc_R_readOneOf 28 = .ok (.dup, 1) := by decide +kernel
theorem dc_R_readOneOf_29 : decode bc_R_readOneOf 29 = .ok (.getfield 22, 3) := by decide +kernel
theorem dc_R_readOneOf_32 : decode bc_R_readOneOf 32 = .ok (.iconst 1, 1) := by decide +kernel
theorem dc_R_readOneOf_33 : decode bc_R_readOneOf 33 = .ok (.iadd, 1) := by decide +kernel
theorem dc_R_readOneOf_34 : decode bc_R_readOneOf 34 = .ok (.putfield 22, 3) := by decide +kernel
theorem dc_R_readOneOf_37 : decode bc_R_readOneOf 37 = .ok (.goto 11, 3) := by decide +kernel
theorem dc_R_readOneOf_40 : decode bc_R_readOneOf 40 = .ok (.aload_n 0, 1) := by decide +kernel
theorem dc_R_readOneOf_41 : decode bc_R_readOneOf 41 = .ok (.aload_n 0, 1) := by decide +kernel
theorem dc_R_readOneOf_42 : decode bc_R_readOneOf 42 = .ok (.getfield 22, 3) := by decide +kernel
theorem dc_R_readOneOf_45 : decode bc_R_readOneOf 45 = .ok (.putfield 15, 3) := by decide +kernel
theorem dc_R_readOneOf_48 : decode bc_R_readOneOf 48 = .ok (.return_, 1) := by decide +kernel
theorem dc_R_readTest_0 : decode bc_R_readTest 0 = .ok (.aload_n 0, 1) := by decide +kernel
theorem dc_R_readTest_1 : decode bc_R_readTest 1 = .ok (.ldc 72, 2) := by decide +kernel
theorem dc_R_readTest_3 : decode bc_R_readTest 3 = .ok (.invokevirtual 74, 3) := by decide +kernel
theorem dc_R_readTest_6 : decode bc_R_readTest 6 = .ok (.aload_n 0, 1) := by decide +kernel
theorem dc_R_readTest_7 : decode bc_R_readTest 7 = .ok (.getfield 9, 3) := by decide +kernel
theorem dc_R_readTest_10 : decode bc_R_readTest 10 = .ok (.aload_n 0, 1) := by decide +kernel
theorem dc_R_readTest_11 : decode bc_R_readTest 11 = .ok (.getfield 22, 3) := by decide +kernel
theorem dc_R_readTest_14 : decode bc_R_readTest 14 = .ok (.invokevirtual 29, 3) := by decide +kernel
theorem dc_R_readTest_17 : decode bc_R_readTest 17 = .ok (.bipush 37, 2) := by decide +kernel
theorem dc_R_readTest_19 : decode bc_R_readTest 19 = .ok (.if_icmp .ne 7, 3) := by decide +kernel
theorem dc_R_readTest_22 : decode bc_R_readTest 22 = .ok (.iconst 1, 1) := by decide +kernel
theorem dc_R_readTest_23 : decode bc_R_readTest 23 = .ok (.goto 4, 3) := by decide +kernel
theorem dc_R_readTest_26 : decode bc_R_readTest 26 = .ok (.iconst 0, 1) := by decide +kernel
theorem dc_R_readTest_27 : decode bc_R_readTest 27 = .ok (.istore_n 2, 1) := by decide +kernel
theorem dc_R_readTest_28 : decode bc_R_readTest 28 = .ok (.aload_n 0, 1) := by decide +kernel
theorem dc_R_readTest_29 : decode bc_R_readTest 29 = .ok (.ldc 78, 2) := by decide +kernel
theorem dc_R_readTest_31 : decode bc_R_readTest 31 = .ok (.invokevirtual 74, 3) := by decide +kernel
theorem dc_R_readTest_34 : decode bc_R_readTest 34 = .ok (.aload_n 0, 1) := by decide +kernel
theorem dc_R_readTest_35 : decode bc_R_readTest 35 = .ok (.aload_n 0, 1) := by decide +kernel
theorem dc_R_readTest_36 : decode bc_R_readTest 36 = .ok (.getfield 9, 3) := by decide +kernel
theorem dc_R_readTest_39 : decode bc_R_readTest 39 = .ok (.getfield 39, 3) := by decide +kernel
theorem dc_R_readTest_42 : decode bc_R_readTest 42 = .ok (.iload_n 1, 1) := by decide +kernel
theorem dc_R_readTest_43 : decode bc_R_readTest 43 = .ok (.iload_n 2, 1) := by decide +kernel
theorem dc_R_readTest_44 : decode bc_R_readTest 44 = .ok (.ifCond .eq 7, 3) := by decide +kernel
theorem dc_R_readTest_47 : decode bc_R_readTest 47 = .ok (.iconst 1, 1) := by decide +kernel
theorem dc_R_readTest_48 : decode bc_R_readTest 48 = .ok (.goto 4, 3) := by decide +kernel
theorem dc_R_readTest_51 : decode bc_R_readTest 51 = .ok (.iconst 0, 1) := by decide +kernel
theorem dc_R_readTest_52 : decode bc_R_readTest 52 = .ok (.sipush 9999, 3) := by decide +kernel
theorem dc_R_readTest_55 : decode bc_R_readTest 55 = .ok (.invokevirtual 43, 3) := by decide +kernel
theorem dc_R_readTest_58 : decode bc_R_readTest 58 = .ok (.return_, 1) := by decide +kernel
theorem dc_R_readInner_0 : decode bc_R_readInner 0 = .ok (.iload_n 1, 1) := by decide +kernel
theorem dc_R_readInner_1 : decode bc_R_readInner 1 = .ok (.iconst 3, 1) := by decide +kernel
theorem dc_R_readInner_2 : decode bc_R_readInner 2 = .ok (.if_icmp .lt 19, 3) := by decide +kernel
theorem dc_R_readInner_5 : decode bc_R_readInner 5 = .ok (.aload_n 0, 1) := by decide +kernel
theorem dc_R_readInner_6 : decode bc_R_readInner 6 = .ok (.getfield 15, 3) := by decide +kernel
theorem dc_R_readInner_9 : decode bc_R_readInner 9 = .ok (.iconst (-1), 1) := by decide +kernel
theorem dc_R_readInner_10 : decode bc_R_readInner 10 = .ok (.if_icmp .ne 11, 3) := by decide +kernel
theorem dc_R_readInner_13 : decode bc_R_readInner 13 = .ok (.aload_n 0, 1) := by decide +kernel
theorem dc_R_readInner_14 : decode bc_R_readInner 14 = .ok (.aload_n 0, 1) := by decide +kernel
theorem dc_R_readInner_15 : decode bc_R_readInner 15 = .ok (.getfield 22, 3) := by decide +kernel
theorem dc_R_readInner_18 : decode bc_R_readInner 18 = .ok (.putfield 15, 3) := by decide +kernel
theorem dc_R_readInner_21 : decode bc_R_readInner 21 = .ok (.aload_n 0, 1) := by decide +kernel
theorem dc_R_readInner_22 : decode bc_R_readInner 22 = .ok (.ldc 80, 2) := by decide +kernel
theorem dc_R_readInner_24 : decode bc_R_readInner 24 = .ok (.invokevirtual 74, 3) := by decide +kernel
theorem dc_R_readInner_27 : decode bc_R_readInner 27 = .ok (.aload_n 0, 1) := by decide +kernel
theorem dc_R_readInner_28 : decode bc_R_readInner 28 = .ok (.getfield 22, 3) := by decide +kernel
theorem dc_R_readInner_31 : decode bc_R_readInner 31 = .ok (.istore_n 2, 1) := by decide +kernel
theorem dc_R_readInner_32 : decode bc_R_readInner 32 = .ok (.aload_n 0, 1) := by decide +kernel
theorem dc_R_readInner_33 : decode bc_R_readInner 33 = .ok (.iload_n 1, 1) := by decide +kernel
theorem dc_R_readInner_34 : decode bc_R_readInner 34 = .ok (.iconst 1, 1) := by decide +kernel
theorem dc_R_readInner_35 : decode bc_R_readInner 35 = .ok (.iadd, 1) := by decide +kernel
theorem dc_R_readInner_36 : decode bc_R_readInner 36 = .ok (.invokevirtual 25, 3) := by decide +kernel
theorem dc_R_readInner_39 : decode bc_R_readInner 39 = .ok (.iload_n 2, 1) := by decide +kernel
theorem dc_R_readInner_40 : decode bc_R_readInner 40 = .ok (.ireturn, 1) := by decide +kernel
theorem dc_R_readChoice_0 : decode bc_R_readChoice 0 = .ok (.aload_n 0, 1) := by decide +kernel
theorem dc_R_readChoice_1 : decode bc_R_readChoice 1 = .ok (.iload_n 1, 1) := by decide +kernel
theorem dc_R_readChoice_2 : decode bc_R_readChoice 2 = .ok (.invokevirtual 47, 3) := by decide +kernel
theorem dc_R_readChoice_5 : decode bc_R_readChoice 5 = .ok (.aload_n 0, 1) := by decide +kernel
theorem dc_R_readChoice_6 : decode bc_R_readChoice 6 = .ok (.getfield 9, 3) := by decide +kernel
theorem dc_R_readChoice_9 : decode bc_R_readChoice 9 = .ok (.getfield 82, 3) := by decide +kernel
theorem dc_R_readChoice_12 : decode bc_R_readChoice 12 = .ok (.iload_n 1, 1) := by decide +kernel
theorem dc_R_readChoice_13 : decode bc_R_readChoice 13 = .ok (.aload_n 0, 1) := by decide +kernel
theorem dc_R_readChoice_14 : decode bc_R_readChoice 14 = .ok (.iload_n 2, 1) := by decide +kernel
theorem dc_R_readChoice_15 : decode bc_R_readChoice 15 = .ok (.invokevirtual 85, 3) := by decide +kernel
theorem dc_R_readChoice_18 : decode bc_R_readChoice 18 = .ok (.iastore, 1) := by decide +kernel
theorem dc_R_readChoice_19 : decode bc_R_readChoice 19 = .ok (.aload_n 0, 1) := by decide +kernel
theorem dc_R_readChoice_20 : decode bc_R_readChoice 20 = .ok (.getfield 9, 3) := by decide +kernel
theorem dc_R_readChoice_23 : decode bc_R_readChoice 23 = .ok (.getfield 88, 3) := by decide +kernel
theorem dc_R_readChoice_26 : decode bc_R_readChoice 26 = .ok (.iload_n 1, 1) := by decide +kernel
theorem dc_R_readChoice_27 : decode bc_R_readChoice 27 = .ok (.iconst (-1), 1) := by decide +kernel
theorem dc_R_readChoice_28 : decode bc_R_readChoice 28 = .ok (.iastore, 1) := by decide +kernel
theorem dc_R_readChoice_29 : decode bc_R_readChoice 29 = .ok (.aload_n 0, 1) := by decide +kernel
theorem dc_R_readChoice_30 : decode bc_R_readChoice 30 = .ok (.getfield 15, 3) := by decide +kernel
theorem dc_R_readChoice_33 : decode bc_R_readChoice 33 = .ok (.iconst (-1), 1) := by decide +kernel
theorem dc_R_readChoice_34 : decode bc_R_readChoice 34 = .ok (.if_icmp .ne 43, 3) := by decide +kernel
theorem dc_R_readChoice_37 : decode bc_R_readChoice 37 = .ok (.aload_n 0, 1) := by decide +kernel
theorem dc_R_readChoice_38 : decode bc_R_readChoice 38 = .ok (.getfield 9, 3) := by decide +kernel
theorem dc_R_readChoice_41 : decode bc_R_readChoice 41 = .ok (.aload_n 0, 1) := by decide +kernel
theorem dc_R_readChoice_42 : decode bc_R_readChoice 42 = .ok (.getfield 22, 3) := by decide +kernel
theorem dc_R_readChoice_45 : decode bc_R_readChoice 45 = .ok (.invokevirtual 29, 3) := by decide +kernel
theorem dc_R_readChoice_48 : decode bc_R_readChoice 48 = .ok (.bipush 58, 2) := by decide +kernel
theorem dc_R_readChoice_50 : decode bc_R_readChoice 50 = .ok (.if_icmp .ne 27, 3) := by decide +kernel
theorem dc_R_readChoice_53 : decode bc_R_readChoice 53 = .ok (.aload_n 0, 1) := by decide +kernel
theorem dc_R_readChoice_54 : decode bc_R_readChoice 54 = .ok (.dup, 1) := by decide +kernel
theorem dc_R_readChoice_55 : decode bc_R_readChoice 55 = .ok (.getfield 22, 3) := by decide +kernel
theorem dc_R_readChoice_58 : decode bc_R_readChoice 58 = .ok (.iconst 1, 1) := by decide +kernel
theorem dc_R_readChoice_59 : decode bc_R_readChoice 59 = .ok (.iadd, 1) := by decide +kernel
theorem dc_R_readChoice_60 : decode bc_R_readChoice 60 = .ok (.putfield 22, 3) := by decide +kernel
theorem dc_R_readChoice_63 : decode bc_R_readChoice 63 = .ok (.aload_n 0, 1) := by decide +kernel
theorem dc_R_readChoice_64 : decode bc_R_readChoice 64 = .ok (.getfield 9, 3) := by decide +kernel
theorem dc_R_readChoice_67 : decode bc_R_readChoice 67 = .ok (.getfield 88, 3) := by decide +kernel
theorem dc_R_readChoice_70 : decode bc_R_readChoice 70 = .ok (.iload_n 1, 1) := by decide +kernel
theorem dc_R_readChoice_71 : decode bc_R_readChoice 71 = .ok (.aload_n 0, 1) := by decide +kernel
theorem dc_R_readChoice_72 : decode bc_R_readChoice 72 = .ok (.iload_n 2, 1) := by decide +kernel
theorem dc_R_readChoice_73 : decode bc_R_readChoice 73 = .ok (.invokevirtual 85, 3) := by decide +kernel
theorem dc_R_readChoice_76 : decode bc_R_readChoice 76 = .ok (.iastore, 1) := by decide +kernel
theorem dc_R_readChoice_77 : decode bc_R_readChoice 77 = .ok (.return_, 1) := by decide +kernel
theorem dc_R_readSplit_0 : decode bc_R_readSplit 0 = .ok (.aload_n 0, 1) := by decide +kernel
theorem dc_R_readSplit_1 : decode bc_R_readSplit 1 = .ok (.aload_n 0, 1) := by decide +kernel
theorem dc_R_readSplit_2 : decode bc_R_readSplit 2 = .ok (.getfield 9, 3) := by decide +kernel
theorem dc_R_readSplit_5 : decode bc_R_readSplit 5 = .ok (.getfield 39, 3) := by decide +kernel
theorem dc_R_readSplit_8 : decode bc_R_readSplit 8 = .ok (.iload_n 1, 1) := by decide +kernel
theorem dc_R_readSplit_9 : decode bc_R_readSplit 9 = .ok (.iconst 1, 1) := by decide +kernel
theorem dc_R_readSplit_10 : decode bc_R_readSplit 10 = .ok (.iconst 4, 1) := by decide +kernel
theorem dc_R_readSplit_11 : decode bc_R_readSplit 11 = .ok (.invokevirtual 43, 3) := by decide +kernel
theorem dc_R_readSplit_14 : decode bc_R_readSplit 14 = .ok (.aload_n 0, 1) := by decide +kernel
theorem dc_R_readSplit_15 : decode bc_R_readSplit 15 = .ok (.getfield 9, 3) := by decide +kernel
theorem dc_R_readSplit_18 : decode bc_R_readSplit 18 = .ok (.getfield 82, 3) := by decide +kernel
theorem dc_R_readSplit_21 : decode bc_R_readSplit 21 = .ok (.iload_n 1, 1) := by decide +kernel
theorem dc_R_readSplit_22 : decode bc_R_readSplit 22 = .ok (.aload_n 0, 1) := by decide +kernel
theorem dc_R_readSplit_23 : decode bc_R_readSplit 23 = .ok (.iload_n 2, 1) := by decide +kernel
theorem dc_R_readSplit_24 : decode bc_R_readSplit 24 = .ok (.invokevirtual 85, 3) := by decide +kernel
theorem dc_R_readSplit_27 : decode bc_R_readSplit 27 = .ok (.iastore, 1) := by decide +kernel
theorem dc_R_readSplit_28 : decode bc_R_readSplit 28 = .ok (.return_, 1) := by decide +kernel
theorem dc_R_readGathering_0 : decode bc_R_readGathering 0 = .ok (.aload_n 0, 1) := by decide +kernel
theorem dc_R_readGathering_1 : decode bc_R_readGathering 1 = .ok (.iload_n 1, 1) := by decide +kernel
theorem dc_R_readGathering_2 : decode bc_R_readGathering 2 = .ok (.iload_n 2, 1) := by decide +kernel
theorem dc_R_readGathering_3 : decode bc_R_readGathering 3 = .ok (.invokevirtual 91, 3) := by decide +kernel
theorem dc_R_readGathering_6 : decode bc_R_readGathering 6 = .ok (.aload_n 0, 1) := by decide +kernel
theorem dc_R_readGathering_7 : decode bc_R_readGathering 7 = .ok (.aload_n 0, 1) := by decide +kernel
theorem dc_R_readGathering_8 : decode bc_R_readGathering 8 = .ok (.getfield 9, 3) := by decide +kernel
theorem dc_R_readGathering_11 : decode bc_R_readGathering 11 = .ok (.getfield 39, 3) := by decide +kernel
theorem dc_R_readGathering_14 : decode bc_R_readGathering 14 = .ok (.iload_n 1, 1) := by decide +kernel
theorem dc_R_readGathering_15 : decode bc_R_readGathering 15 = .ok (.iconst 2, 1) := by decide +kernel
theorem dc_R_readGathering_16 : decode bc_R_readGathering 16 = .ok (.iconst 4, 1) := by decide +kernel
theorem dc_R_readGathering_17 : decode bc_R_readGathering 17 = .ok (.invokevirtual 43, 3) := by decide +kernel
theorem dc_R_readGathering_20 : decode bc_R_readGathering 20 = .ok (.aload_n 0, 1) := by decide +kernel
theorem dc_R_readGathering_21 : decode bc_R_readGathering 21 = .ok (.ldc 94, 2) := by decide +kernel
theorem dc_R_readGathering_23 : decode bc_R_readGathering 23 = .ok (.invokevirtual 74, 3) := by decide +kernel
theorem dc_R_readGathering_26 : decode bc_R_readGathering 26 = .ok (.aload_n 0, 1) := by decide +kernel
theorem dc_R_readGathering_27 : decode bc_R_readGathering 27 = .ok (.aload_n 0, 1) := by decide +kernel
theorem dc_R_readGathering_28 : decode bc_R_readGathering 28 = .ok (.getfield 9, 3) := by decide +kernel
theorem dc_R_readGathering_31 : decode bc_R_readGathering 31 = .ok (.getfield 96, 3) := by decide +kernel
theorem dc_R_readGathering_34 : decode bc_R_readGathering 34 = .ok (.iload_n 1, 1) := by decide +kernel
theorem dc_R_readGathering_35 : decode bc_R_readGathering 35 = .ok (.iconst 1, 1) := by decide +kernel
theorem dc_R_readGathering_36 : decode bc_R_readGathering 36 = .ok (.bipush 99, 2) := by decide +kernel
theorem dc_R_readGathering_38 : decode bc_R_readGathering 38 = .ok (.invokevirtual 43, 3) := by decide +kernel
theorem dc_R_readGathering_41 : decode bc_R_readGathering 41 = .ok (.return_, 1) := by decide +kernel
theorem dc_R_readOrdering_0 : decode bc_R_readOrdering 0 = .ok (.aload_n 0, 1) := by decide +kernel
theorem dc_R_readOrdering_1 : decode bc_R_readOrdering 1 = .ok (.iload_n 1, 1) := by decide +kernel
theorem dc_R_readOrdering_2 : decode bc_R_readOrdering 2 = .ok (.iload_n 2, 1) := by decide +kernel
theorem dc_R_readOrdering_3 : decode bc_R_readOrdering 3 = .ok (.invokevirtual 91, 3) := by decide +kernel
theorem dc_R_readOrdering_6 : decode bc_R_readOrdering 6 = .ok (.aload_n 0, 1) := by decide +kernel
theorem dc_R_readOrdering_7 : decode bc_R_readOrdering 7 = .ok (.aload_n 0, 1) := by decide +kernel
theorem dc_R_readOrdering_8 : decode bc_R_readOrdering 8 = .ok (.getfield 9, 3) := by decide +kernel
theorem dc_R_readOrdering_11 : decode bc_R_readOrdering 11 = .ok (.getfield 39, 3) := by decide +kernel
theorem dc_R_readOrdering_14 : decode bc_R_readOrdering 14 = .ok (.iload_n 1, 1) := by decide +kernel
theorem dc_R_readOrdering_15 : decode bc_R_readOrdering 15 = .ok (.iconst 2, 1) := by decide +kernel
theorem dc_R_readOrdering_16 : decode bc_R_readOrdering 16 = .ok (.iconst 4, 1) := by decide +kernel
theorem dc_R_readOrdering_17 : decode bc_R_readOrdering 17 = .ok (.invokevirtual 43, 3) := by decide +kernel
theorem dc_R_readOrdering_20 : decode bc_R_readOrdering 20 = .ok (.return_, 1) := by decide +kernel
theorem dc_R_refuseInner_0 : decode bc_R_refuseInner 0 = .ok (.iload_n 2, 1) := by decide +kernel
theorem dc_R_refuseInner_1 : decode bc_R_refuseInner 1 = .ok (.ifCond .le 8, 3) := by decide +kernel
theorem dc_R_refuseInner_4 : decode bc_R_refuseInner 4 = .ok (.aload_n 0, 1) := by decide +kernel
theorem dc_R_refuseInner_5 : decode bc_R_refuseInner 5 = .ok (.iload_n 1, 1) := by decide +kernel
theorem dc_R_refuseInner_6 : decode bc_R_refuseInner 6 = .ok (.putfield 15, 3) := by decide +kernel
theorem dc_R_refuseInner_9 : decode bc_R_refuseInner 9 = .ok (.return_, 1) := by decide +kernel
theorem dc_JS_indexOf0_0 : decode bc_JS_indexOf0 0 = .ok (.aload_n 0, 1) := by decide +kernel
theorem dc_JS_indexOf0_1 : decode bc_JS_indexOf0 1 = .ok (.iload_n 1, 1) := by decide +kernel
theorem dc_JS_indexOf0_2 : decode bc_JS_indexOf0 2 = .ok (.iconst 0, 1) := by decide +kernel
theorem dc_JS_indexOf0_3 : decode bc_JS_indexOf0 3 = .ok (.invokevirtual 633, 3) := by decide +kernel
theorem dc_JS_indexOf0_6 : decode bc_JS_indexOf0 6 = .ok (.ireturn, 1) := by decide +kernel
theorem dc_JS_indexOf1_0 : decode bc_JS_indexOf1 0 = .ok (.aload_n 0, 1) := by decide +kernel
theorem dc_JS_indexOf1_1 : decode bc_JS_indexOf1 1 = .ok (.invokevirtual 492, 3) := by decide +kernel
theorem dc_JS_indexOf1_4 : decode bc_JS_indexOf1 4 = .ok (.ifCond .eq 19, 3) := by decide +kernel
theorem dc_JS_indexOf1_7 : decode bc_JS_indexOf1 7 = .ok (.aload_n 0, 1) := by decide +kernel
theorem dc_JS_indexOf1_8 : decode bc_JS_indexOf1 8 = .ok (.getfield 9, 3) := by decide +kernel
theorem dc_JS_indexOf1_11 : decode bc_JS_indexOf1 11 = .ok (.iload_n 1, 1) := by decide +kernel
theorem dc_JS_indexOf1_12 : decode bc_JS_indexOf1 12 = .ok (.iload_n 2, 1) := by decide +kernel
theorem dc_JS_indexOf1_13 : decode bc_JS_indexOf1 13 = .ok (.aload_n 0, 1) := by decide +kernel
theorem dc_JS_indexOf1_14 : decode bc_JS_indexOf1 14 = .ok (.invokevirtual 505, 3) := by decide +kernel
theorem dc_JS_indexOf1_17 : decode bc_JS_indexOf1 17 = .ok (.invokestatic 637, 3) := by decide +kernel
theorem dc_JS_indexOf1_20 : decode bc_JS_indexOf1 20 = .ok (.goto 16, 3) := by decide +kernel
theorem dc_JS_indexOf1_23 : decode bc_JS_indexOf1 23 = .ok (.aload_n 0, 1) := by decide +kernel
theorem dc_JS_indexOf1_24 : decode bc_JS_indexOf1 24 = .ok (.getfield 9, 3) := by decide +kernel
theorem dc_JS_indexOf1_27 : decode bc_JS_indexOf1 27 = .ok (.iload_n 1, 1) := by decide +kernel
theorem dc_JS_indexOf1_28 : decode bc_JS_indexOf1 28 = .ok (.iload_n 2, 1) := by decide +kernel
theorem dc_JS_indexOf1_29 : decode bc_JS_indexOf1 29 = .ok (.aload_n 0, 1) := by decide +kernel
theorem dc_JS_indexOf1_30 : decode bc_JS_indexOf1 30 = .ok (.invokevirtual 505, 3) := by decide +kernel
theorem dc_JS_indexOf1_36 : decode bc_JS_indexOf1 36 = .ok (.ireturn, 1) := by decide +kernel
theorem dc_JS_isLatin1_0 : decode bc_JS_isLatin1 0 = .ok (.getstatic 38, 3) := by decide +kernel
theorem dc_JS_isLatin1_3 : decode bc_JS_isLatin1 3 = .ok (.ifCond .eq 14, 3) := by decide +kernel
theorem dc_JS_isLatin1_6 : decode bc_JS_isLatin1 6 = .ok (.aload_n 0, 1) := by decide +kernel
theorem dc_JS_isLatin1_7 : decode bc_JS_isLatin1 7 = .ok (.getfield 15, 3) := by decide +kernel
theorem dc_JS_isLatin1_10 : decode bc_JS_isLatin1 10 = .ok (.ifCond .ne 7, 3) := by decide +kernel
theorem dc_JS_isLatin1_13 : decode bc_JS_isLatin1 13 = .ok (.iconst 1, 1) := by decide +kernel
theorem dc_JS_isLatin1_14 : decode bc_JS_isLatin1 14 = .ok (.goto 4, 3) := by decide +kernel
theorem dc_JS_isLatin1_17 : decode bc_JS_isLatin1 17 = .ok (.iconst 0, 1) := by decide +kernel
theorem dc_JS_isLatin1_18 : decode bc_JS_isLatin1 18 = .ok (.ireturn, 1) := by decide +kernel
theorem dc_JS_length_0 : decode bc_JS_length 0 = .ok (.aload_n 0, 1) := by decide +kernel
theorem dc_JS_length_1 : decode bc_JS_length 1 = .ok (.getfield 9, 3) := by decide +kernel
theorem dc_JS_length_4 : decode bc_JS_length 4 = .ok (.arraylength, 1) := by decide +kernel
theorem dc_JS_length_5 : decode bc_JS_length 5 = .ok (.aload_n 0, 1) := by decide +kernel
theorem dc_JS_length_6 : decode bc_JS_length 6 = .ok (.invokevirtual 335, 3) := by decide +kernel
theorem dc_JS_length_9 : decode bc_JS_length 9 = .ok (.ishr, 1) := by decide +kernel
theorem dc_JS_length_10 : decode bc_JS_length 10 = .ok (.ireturn, 1) := by decide +kernel
theorem dc_JS_coder_0 : decode bc_JS_coder 0 = .ok (.getstatic 38, 3) := by decide +kernel
theorem dc_JS_coder_3 : decode bc_JS_coder 3 = .ok (.ifCond .eq 10, 3) := by decide +kernel
theorem dc_JS_coder_6 : decode bc_JS_coder 6 = .ok (.aload_n 0, 1) := by decide +kernel
theorem dc_JS_coder_7 : decode bc_JS_coder 7 = .ok (.getfield 15, 3) := by decide +kernel
theorem dc_JS_coder_10 : decode bc_JS_coder 10 = .ok (.goto 4, 3) := by decide +kernel
theorem dc_JS_coder_13 : decode bc_JS_coder 13 = .ok (.iconst 1, 1) := by decide +kernel
theorem dc_JS_coder_14 : decode bc_JS_coder 14 = .ok (.ireturn, 1) := by decide +kernel
theorem dc_JL_indexOf_0 : decode bc_JL_indexOf 0 = .ok (.iload_n 1, 1) := by decide +kernel
theorem dc_JL_indexOf_1 : decode bc_JL_indexOf 1 = .ok (.invokestatic 88, 3) := by decide +kernel
theorem dc_JL_indexOf_4 : decode bc_JL_indexOf 4 = .ok (.ifCond .ne 5, 3) := by decide +kernel
theorem dc_JL_indexOf_7 : decode bc_JL_indexOf 7 = .ok (.iconst (-1), 1) := by decide +kernel
theorem dc_JL_indexOf_8 : decode bc_JL_indexOf 8 = .ok (.ireturn, 1) := by decide +kernel
theorem dc_JL_indexOf_9 : decode bc_JL_indexOf 9 = .ok (.iload_n 2, 1) := by decide +kernel
theorem dc_JL_indexOf_10 : decode bc_JL_indexOf 10 = .ok (.iconst 0, 1) := by decide +kernel
theorem dc_JL_indexOf_11 : decode bc_JL_indexOf 11 = .ok (.invokestatic 92, 3) := by decide +kernel
theorem dc_JL_indexOf_14 : decode bc_JL_indexOf 14 = .ok (.istore_n 2, 1) := by decide +kernel
theorem dc_JL_indexOf_15 : decode bc_JL_indexOf 15 = .ok (.iload_n 3, 1) := by decide +kernel
theorem dc_JL_indexOf_16 : decode bc_JL_indexOf 16 = .ok (.aload_n 0, 1) := by decide +kernel
theorem dc_JL_indexOf_17 : decode bc_JL_indexOf 17 = .ok (.arraylength, 1) := by decide +kernel
theorem dc_JL_indexOf_18 : decode bc_JL_indexOf 18 = .ok (.invokestatic 38, 3) := by decide +kernel
theorem dc_JL_indexOf_21 : decode bc_JL_indexOf 21 = .ok (.istore_n 3, 1) := by decide +kernel
theorem dc_JL_indexOf_22 : decode bc_JL_indexOf 22 = .ok (.iload_n 2, 1) := by decide +kernel
theorem dc_JL_indexOf_23 : decode bc_JL_indexOf 23 = .ok (.iload_n 3, 1) := by decide +kernel
theorem dc_JL_indexOf_24 : decode bc_JL_indexOf 24 = .ok (.if_icmp .lt 5, 3) := by decide +kernel
theorem dc_JL_indexOf_27 : decode bc_JL_indexOf 27 = .ok (.iconst (-1), 1) := by decide +kernel
theorem dc_JL_indexOf_28 : decode bc_JL_indexOf 28 = .ok (.ireturn, 1) := by decide +kernel
theorem dc_JL_indexOf_29 : decode bc_JL_indexOf 29 = .ok (.aload_n 0, 1) := by decide +kernel
theorem dc_JL_indexOf_30 : decode bc_JL_indexOf 30 = .ok (.iload_n 1, 1) := by decide +kernel
theorem dc_JL_indexOf_31 : decode bc_JL_indexOf 31 = .ok (.iload_n 2, 1) := by decide +kernel
theorem dc_JL_indexOf_32 : decode bc_JL_indexOf 32 = .ok (.iload_n 3, 1) := by decide +kernel
theorem dc_JL_indexOf_33 : decode bc_JL_indexOf 33 = .ok (.invokestatic 95, 3) := by decide +kernel
theorem dc_JL_indexOf_36 : decode bc_JL_indexOf 36 = .ok (.ireturn, 1) := by decide +kernel
theorem dc_JL_canEncode_0 : decode bc_JL_canEncode 0 = .ok (.iload_n 0, 1) := by decide +kernel
theorem dc_JL_canEncode_1 : decode bc_JL_canEncode 1 = .ok (.ifCond .lt 14, 3) := by decide +kernel
theorem dc_JL_canEncode_4 : decode bc_JL_canEncode 4 = .ok (.iload_n 0, 1) := by decide +kernel
theorem dc_JL_canEncode_5 : decode bc_JL_canEncode 5 = .ok (.sipush 255, 3) := by decide +kernel
theorem dc_JL_canEncode_8 : decode bc_JL_canEncode 8 = .ok (.if_icmp .gt 7, 3) := by decide +kernel
theorem dc_JL_canEncode_11 : decode bc_JL_canEncode 11 = .ok (.iconst 1, 1) := by decide +kernel
theorem dc_JL_canEncode_12 : decode bc_JL_canEncode 12 = .ok (.goto 4, 3) := by decide +kernel
theorem dc_JL_canEncode_15 : decode bc_JL_canEncode 15 = .ok (.iconst 0, 1) := by decide +kernel
theorem dc_JL_canEncode_16 : decode bc_JL_canEncode 16 = .ok (.ireturn, 1) := by decide +kernel
theorem dc_JL_indexOfChar_0 : decode bc_JL_indexOfChar 0 = .ok (.iload_n 1, 1) := by decide +kernel
theorem dc_JL_indexOfChar_1 : decode bc_JL_indexOfChar 1 = .ok (.i2b, 1) := by decide +kernel
theorem dc_JL_indexOfChar_2 : decode bc_JL_indexOfChar 2 = .ok (.istore 4, 2) := by decide +kernel
theorem dc_JL_indexOfChar_4 : decode bc_JL_indexOfChar 4 = .ok (.iload_n 2, 1) := by decide +kernel
theorem dc_JL_indexOfChar_5 : decode bc_JL_indexOfChar 5 = .ok (.istore 5, 2) := by decide +kernel
theorem dc_JL_indexOfChar_7 : decode bc_JL_indexOfChar 7 = .ok (.iload 5, 2) := by decide +kernel
theorem dc_JL_indexOfChar_9 : decode bc_JL_indexOfChar 9 = .ok (.iload_n 3, 1) := by decide +kernel
theorem dc_JL_indexOfChar_10 : decode bc_JL_indexOfChar 10 = .ok (.if_icmp .ge 21, 3) := by decide +kernel
theorem dc_JL_indexOfChar_13 : decode bc_JL_indexOfChar 13 = .ok (.aload_n 0, 1) := by decide +kernel
theorem dc_JL_indexOfChar_14 : decode bc_JL_indexOfChar 14 = .ok (.iload 5, 2) := by decide +kernel
theorem dc_JL_indexOfChar_16 : decode bc_JL_indexOfChar 16 = .ok (.baload, 1) := by decide +kernel
theorem dc_JL_indexOfChar_17 : decode bc_JL_indexOfChar 17 = .ok (.iload 4, 2) := by decide +kernel
theorem dc_JL_indexOfChar_19 : decode bc_JL_indexOfChar 19 = .ok (.if_icmp .ne 6, 3) := by decide +kernel
theorem dc_JL_indexOfChar_22 : decode bc_JL_indexOfChar 22 = .ok (.iload 5, 2) := by decide +kernel
theorem dc_JL_indexOfChar_24 : decode bc_JL_indexOfChar 24 = .ok (.ireturn, 1) := by decide +kernel
theorem dc_JL_indexOfChar_25 : decode bc_JL_indexOfChar 25 = .ok (.iinc 5 1, 3) := by decide +kernel
theorem dc_JL_indexOfChar_28 : decode bc_JL_indexOfChar 28 = .ok (.goto (-21), 3) := by decide +kernel
theorem dc_JL_indexOfChar_31 : decode bc_JL_indexOfChar 31 = .ok (.iconst (-1), 1) := by decide +kernel
theorem dc_JL_indexOfChar_32 : decode bc_JL_indexOfChar 32 = .ok (.ireturn, 1) := by decide +kernel
theorem dc_E_read_0 : decode bc_E_read 0 = .ok (.iconst 0, 1) := by decide +kernel
theorem dc_E_read_1 : decode bc_E_read 1 = .ok (.istore_n 1, 1) := by decide +kernel
theorem dc_E_read_2 : decode bc_E_read 2 = .ok (.iload_n 1, 1) := by decide +kernel
theorem dc_E_read_3 : decode bc_E_read 3 = .ok (.iconst 4, 1) := by decide +kernel
theorem dc_E_read_4 : decode bc_E_read 4 = .ok (.if_icmp .ge 32, 3) := by decide +kernel
theorem dc_E_read_7 : decode bc_E_read 7 = .ok (.aload_n 0, 1) := by decide +kernel
theorem dc_E_read_8 : decode bc_E_read 8 = .ok (.getfield 28, 3) := by decide +kernel
theorem dc_E_read_11 : decode bc_E_read 11 = .ok (.iload_n 1, 1) := by decide +kernel
theorem dc_E_read_12 : decode bc_E_read 12 = .ok (.invokevirtual 90, 3) := by decide +kernel
theorem dc_E_read_15 : decode bc_E_read 15 = .ok (.istore_n 2, 1) := by decide +kernel
theorem dc_E_read_16 : decode bc_E_read 16 = .ok (.iload_n 2, 1) := by decide +kernel
theorem dc_E_read_17 : decode bc_E_read 17 = .ok (.iconst (-1), 1) := by decide +kernel
theorem dc_E_read_18 : decode bc_E_read 18 = .ok (.if_icmp .eq 12, 3) := by decide +kernel
theorem dc_E_read_21 : decode bc_E_read 21 = .ok (.bipush 100, 2) := by decide +kernel
theorem dc_E_read_23 : decode bc_E_read 23 = .ok (.iload_n 1, 1) := by decide +kernel
theorem dc_E_read_24 : decode bc_E_read 24 = .ok (.iconst 1, 1) := by decide +kernel
theorem dc_E_read_25 : decode bc_E_read 25 = .ok (.iadd, 1) := by decide +kernel
theorem dc_E_read_26 : decode bc_E_read 26 = .ok (.imul, 1) := by decide +kernel
theorem dc_E_read_27 : decode bc_E_read 27 = .ok (.iload_n 2, 1) := by decide +kernel
theorem dc_E_read_28 : decode bc_E_read 28 = .ok (.iadd, 1) := by decide +kernel
theorem dc_E_read_29 : decode bc_E_read 29 = .ok (.ireturn, 1) := by decide +kernel
theorem dc_E_read_30 : decode bc_E_read 30 = .ok (.iinc 1 1, 3) := by decide +kernel
theorem dc_E_read_33 : decode bc_E_read 33 = .ok (.goto (-31), 3) := by decide +kernel
theorem dc_E_read_36 : decode bc_E_read 36 = .ok (.aload_n 0, 1) := by decide +kernel
theorem dc_E_read_37 : decode bc_E_read 37 = .ok (.getfield 20, 3) := by decide +kernel
theorem dc_E_read_40 : decode bc_E_read 40 = .ok (.aload_n 0, 1) := by decide +kernel
theorem dc_E_read_41 : decode bc_E_read 41 = .ok (.getfield 16, 3) := by decide +kernel
theorem dc_E_read_44 : decode bc_E_read 44 = .ok (.invokevirtual 94, 3) := by decide +kernel
theorem dc_E_read_47 : decode bc_E_read 47 = .ok (.aload_n 0, 1) := by decide +kernel
theorem dc_E_read_48 : decode bc_E_read 48 = .ok (.getfield 51, 3) := by decide +kernel
theorem dc_E_read_51 : decode bc_E_read 51 = .ok (.invokevirtual 97, 3) := by decide +kernel
theorem dc_E_read_54 : decode bc_E_read 54 = .ok (.aload_n 0, 1) := by decide +kernel
theorem dc_E_read_55 : decode bc_E_read 55 = .ok (.getfield 61, 3) := by decide +kernel
theorem dc_E_read_58 : decode bc_E_read 58 = .ok (.iconst 0, 1) := by decide +kernel
theorem dc_E_read_59 : decode bc_E_read 59 = .ok (.putfield 100, 3) := by decide +kernel
theorem dc_E_read_62 : decode bc_E_read 62 = .ok (.aload_n 0, 1) := by decide +kernel
theorem dc_E_read_63 : decode bc_E_read 63 = .ok (.getfield 68, 3) := by decide +kernel
theorem dc_E_read_66 : decode bc_E_read 66 = .ok (.invokevirtual 104, 3) := by decide +kernel
theorem dc_E_read_69 : decode bc_E_read 69 = .ok (.aload_n 0, 1) := by decide +kernel
theorem dc_E_read_70 : decode bc_E_read 70 = .ok (.iconst 0, 1) := by decide +kernel
theorem dc_E_read_71 : decode bc_E_read 71 = .ok (.putfield 105, 3) := by decide +kernel
theorem dc_E_read_74 : decode bc_E_read 74 = .ok (.iconst 0, 1) := by decide +kernel
theorem dc_E_read_75 : decode bc_E_read 75 = .ok (.ireturn, 1) := by decide +kernel
