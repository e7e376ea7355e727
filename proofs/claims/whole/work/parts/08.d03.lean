theorem d_R_init_112 : decode c_R_init 112 = .ok (.putfield 63, 3) := by decide +kernel
theorem d_R_init_115 : decode c_R_init 115 = .ok (.aload_n 0, 1) := by decide +kernel
theorem d_R_init_116 : decode c_R_init 116 = .ok (.bipush 24, 2) := by decide +kernel
theorem d_R_init_118 : decode c_R_init 118 = .ok (.newarray .int, 2) := by decide +kernel
theorem d_R_init_120 : decode c_R_init 120 = .ok (.putfield 66, 3) := by decide +kernel
theorem d_R_init_123 : decode c_R_init 123 = .ok (.aload_n 0, 1) := by decide +kernel
theorem d_R_init_124 : decode c_R_init 124 = .ok (.bipush 24, 2) := by decide +kernel
theorem d_R_init_126 : decode c_R_init 126 = .ok (.newarray .int, 2) := by decide +kernel
theorem d_R_init_128 : decode c_R_init 128 = .ok (.putfield 69, 3) := by decide +kernel
theorem d_R_init_131 : decode c_R_init 131 = .ok (.aload_n 0, 1) := by decide +kernel
theorem d_R_init_132 : decode c_R_init 132 = .ok (.bipush 24, 2) := by decide +kernel
theorem d_R_init_134 : decode c_R_init 134 = .ok (.newarray .int, 2) := by decide +kernel
theorem d_R_init_136 : decode c_R_init 136 = .ok (.putfield 72, 3) := by decide +kernel
theorem d_R_init_139 : decode c_R_init 139 = .ok (.aload_n 0, 1) := by decide +kernel
theorem d_R_init_140 : decode c_R_init 140 = .ok (.bipush 24, 2) := by decide +kernel
theorem d_R_init_142 : decode c_R_init 142 = .ok (.newarray .int, 2) := by decide +kernel
theorem d_R_init_144 : decode c_R_init 144 = .ok (.putfield 75, 3) := by decide +kernel
theorem d_R_init_147 : decode c_R_init 147 = .ok (.aload_n 0, 1) := by decide +kernel
theorem d_R_init_148 : decode c_R_init 148 = .ok (.bipush 72, 2) := by decide +kernel
theorem d_R_init_150 : decode c_R_init 150 = .ok (.newarray .int, 2) := by decide +kernel
theorem d_R_init_152 : decode c_R_init 152 = .ok (.putfield 78, 3) := by decide +kernel
theorem d_R_init_155 : decode c_R_init 155 = .ok (.aload_n 0, 1) := by decide +kernel
theorem d_R_init_156 : decode c_R_init 156 = .ok (.bipush 24, 2) := by decide +kernel
theorem d_R_init_158 : decode c_R_init 158 = .ok (.newarray .int, 2) := by decide +kernel
theorem d_R_init_160 : decode c_R_init 160 = .ok (.putfield 81, 3) := by decide +kernel
theorem d_R_init_163 : decode c_R_init 163 = .ok (.aload_n 0, 1) := by decide +kernel
theorem d_R_init_164 : decode c_R_init 164 = .ok (.bipush 24, 2) := by decide +kernel
theorem d_R_init_166 : decode c_R_init 166 = .ok (.newarray .boolean, 2) := by decide +kernel
theorem d_R_init_168 : decode c_R_init 168 = .ok (.putfield 84, 3) := by decide +kernel
theorem d_R_init_171 : decode c_R_init 171 = .ok (.aload_n 0, 1) := by decide +kernel
theorem d_R_init_172 : decode c_R_init 172 = .ok (.bipush 24, 2) := by decide +kernel
theorem d_R_init_174 : decode c_R_init 174 = .ok (.newarray .boolean, 2) := by decide +kernel
theorem d_R_init_176 : decode c_R_init 176 = .ok (.putfield 88, 3) := by decide +kernel
theorem d_R_init_179 : decode c_R_init 179 = .ok (.aload_n 0, 1) := by decide +kernel
theorem d_R_init_180 : decode c_R_init 180 = .ok (.bipush 24, 2) := by decide +kernel
theorem d_R_init_182 : decode c_R_init 182 = .ok (.newarray .int, 2) := by decide +kernel
theorem d_R_init_184 : decode c_R_init 184 = .ok (.putfield 91, 3) := by decide +kernel
theorem d_R_init_187 : decode c_R_init 187 = .ok (.aload_n 0, 1) := by decide +kernel
theorem d_R_init_188 : decode c_R_init 188 = .ok (.bipush 24, 2) := by decide +kernel
theorem d_R_init_190 : decode c_R_init 190 = .ok (.newarray .int, 2) := by decide +kernel
theorem d_R_init_192 : decode c_R_init 192 = .ok (.putfield 94, 3) := by decide +kernel
theorem d_R_init_195 : decode c_R_init 195 = .ok (.aload_n 0, 1) := by decide +kernel
theorem d_R_init_196 : decode c_R_init 196 = .ok (.bipush 24, 2) := by decide +kernel
theorem d_R_init_198 : decode c_R_init 198 = .ok (.newarray .int, 2) := by decide +kernel
theorem d_R_init_200 : decode c_R_init 200 = .ok (.putfield 97, 3) := by decide +kernel
theorem d_R_init_203 : decode c_R_init 203 = .ok (.aload_n 0, 1) := by decide +kernel
theorem d_R_init_204 : decode c_R_init 204 = .ok (.bipush 24, 2) := by decide +kernel
theorem d_R_init_206 : decode c_R_init 206 = .ok (.newarray .int, 2) := by decide +kernel
theorem d_R_init_208 : decode c_R_init 208 = .ok (.putfield 100, 3) := by decide +kernel
theorem d_R_init_211 : decode c_R_init 211 = .ok (.aload_n 0, 1) := by decide +kernel
theorem d_R_init_212 : decode c_R_init 212 = .ok (.bipush 24, 2) := by decide +kernel
theorem d_R_init_214 : decode c_R_init 214 = .ok (.newarray .int, 2) := by decide +kernel
theorem d_R_init_216 : decode c_R_init 216 = .ok (.putfield 103, 3) := by decide +kernel
theorem d_R_init_219 : decode c_R_init 219 = .ok (.aload_n 0, 1) := by decide +kernel
theorem d_R_init_220 : decode c_R_init 220 = .ok (.bipush 24, 2) := by decide +kernel
theorem d_R_init_222 : decode c_R_init 222 = .ok (.newarray .int, 2) := by decide +kernel
theorem d_R_init_224 : decode c_R_init 224 = .ok (.putfield 106, 3) := by decide +kernel
theorem d_R_init_227 : decode c_R_init 227 = .ok (.aload_n 0, 1) := by decide +kernel
theorem d_R_init_228 : decode c_R_init 228 = .ok (.bipush 24, 2) := by decide +kernel
theorem d_R_init_230 : decode c_R_init 230 = .ok (.newarray .int, 2) := by decide +kernel
theorem d_R_init_232 : decode c_R_init 232 = .ok (.putfield 109, 3) := by decide +kernel
theorem d_R_init_235 : decode c_R_init 235 = .ok (.aload_n 0, 1) := by decide +kernel
theorem d_R_init_236 : decode c_R_init 236 = .ok (.sipush 144, 3) := by decide +kernel
theorem d_R_init_239 : decode c_R_init 239 = .ok (.newarray .int, 2) := by decide +kernel
theorem d_R_init_241 : decode c_R_init 241 = .ok (.putfield 112, 3) := by decide +kernel
theorem d_R_init_244 : decode c_R_init 244 = .ok (.aload_n 0, 1) := by decide +kernel
theorem d_R_init_245 : decode c_R_init 245 = .ok (.sipush 144, 3) := by decide +kernel
theorem d_R_init_248 : decode c_R_init 248 = .ok (.newarray .int, 2) := by decide +kernel
theorem d_R_init_250 : decode c_R_init 250 = .ok (.putfield 115, 3) := by decide +kernel
theorem d_R_init_253 : decode c_R_init 253 = .ok (.aload_n 0, 1) := by decide +kernel
theorem d_R_init_254 : decode c_R_init 254 = .ok (.sipush 144, 3) := by decide +kernel
theorem d_R_init_257 : decode c_R_init 257 = .ok (.newarray .int, 2) := by decide +kernel
theorem d_R_init_259 : decode c_R_init 259 = .ok (.putfield 118, 3) := by decide +kernel
theorem d_R_init_262 : decode c_R_init 262 = .ok (.aload_n 0, 1) := by decide +kernel
theorem d_R_init_263 : decode c_R_init 263 = .ok (.sipush 144, 3) := by decide +kernel
theorem d_R_init_266 : decode c_R_init 266 = .ok (.newarray .int, 2) := by decide +kernel
theorem d_R_init_268 : decode c_R_init 268 = .ok (.putfield 121, 3) := by decide +kernel
theorem d_R_init_271 : decode c_R_init 271 = .ok (.aload_n 0, 1) := by decide +kernel
theorem d_R_init_272 : decode c_R_init 272 = .ok (.sipush 144, 3) := by decide +kernel
theorem d_R_init_275 : decode c_R_init 275 = .ok (.newarray .int, 2) := by decide +kernel
theorem d_R_init_277 : decode c_R_init 277 = .ok (.putfield 124, 3) := by decide +kernel
theorem d_R_init_280 : decode c_R_init 280 = .ok (.aload_n 0, 1) := by decide +kernel
theorem d_R_init_281 : decode c_R_init 281 = .ok (.bipush 24, 2) := by decide +kernel
theorem d_R_init_283 : decode c_R_init 283 = .ok (.newarray .int, 2) := by decide +kernel
theorem d_R_init_285 : decode c_R_init 285 = .ok (.putfield 127, 3) := by decide +kernel
theorem d_R_init_288 : decode c_R_init 288 = .ok (.aload_n 0, 1) := by decide +kernel
theorem d_R_init_289 : decode c_R_init 289 = .ok (.bipush 24, 2) := by decide +kernel
theorem d_R_init_291 : decode c_R_init 291 = .ok (.newarray .int, 2) := by decide +kernel
theorem d_R_init_293 : decode c_R_init 293 = .ok (.putfield 130, 3) := by decide +kernel
theorem d_R_init_296 : decode c_R_init 296 = .ok (.aload_n 0, 1) := by decide +kernel
theorem d_R_init_297 : decode c_R_init 297 = .ok (.bipush 24, 2) := by decide +kernel
theorem d_R_init_299 : decode c_R_init 299 = .ok (.newarray .int, 2) := by decide +kernel
theorem d_R_init_301 : decode c_R_init 301 = .ok (.putfield 133, 3) := by decide +kernel
theorem d_R_init_304 : decode c_R_init 304 = .ok (.return_, 1) := by decide +kernel
theorem d_R_thrown_0 : decode c_R_thrown 0 = .ok (.aload_n 0, 1) := by decide +kernel
theorem d_R_thrown_1 : decode c_R_thrown 1 = .ok (.getfield 7, 3) := by decide +kernel
theorem d_R_thrown_4 : decode c_R_thrown 4 = .ok (.ireturn, 1) := by decide +kernel
theorem d_R_act_0 : decode c_R_act 0 = .ok (.aload_n 0, 1) := by decide +kernel
theorem d_R_act_1 : decode c_R_act 1 = .ok (.iload_n 1, 1) := by decide +kernel
theorem d_R_act_2 : decode c_R_act 2 = .ok (.iconst 0, 1) := by decide +kernel
theorem d_R_act_3 : decode c_R_act 3 = .ok (.bipush 9, 2) := by decide +kernel
theorem d_R_act_5 : decode c_R_act 5 = .ok (.invokevirtual 136, 3) := by decide +kernel
theorem d_R_act_8 : decode c_R_act 8 = .ok (.ifCond .ne 25, 3) := by decide +kernel
theorem d_R_act_11 : decode c_R_act 11 = .ok (.aload_n 0, 1) := by decide +kernel
theorem d_R_act_12 : decode c_R_act 12 = .ok (.iload_n 2, 1) := by decide +kernel
theorem d_R_act_13 : decode c_R_act 13 = .ok (.iconst 0, 1) := by decide +kernel
theorem d_R_act_14 : decode c_R_act 14 = .ok (.bipush 15, 2) := by decide +kernel
theorem d_R_act_16 : decode c_R_act 16 = .ok (.invokevirtual 136, 3) := by decide +kernel
theorem d_R_act_19 : decode c_R_act 19 = .ok (.ifCond .ne 14, 3) := by decide +kernel
theorem d_R_act_22 : decode c_R_act 22 = .ok (.aload_n 0, 1) := by decide +kernel
theorem d_R_act_23 : decode c_R_act 23 = .ok (.iload_n 2, 1) := by decide +kernel
theorem d_R_act_24 : decode c_R_act 24 = .ok (.iload_n 3, 1) := by decide +kernel
theorem d_R_act_25 : decode c_R_act 25 = .ok (.iload 4, 2) := by decide +kernel
theorem d_R_act_27 : decode c_R_act 27 = .ok (.invokevirtual 140, 3) := by decide +kernel
theorem d_R_act_30 : decode c_R_act 30 = .ok (.ifCond .eq 9, 3) := by decide +kernel
theorem d_R_act_33 : decode c_R_act 33 = .ok (.aload_n 0, 1) := by decide +kernel
theorem d_R_act_34 : decode c_R_act 34 = .ok (.iconst 1, 1) := by decide +kernel
theorem d_R_act_35 : decode c_R_act 35 = .ok (.invokevirtual 143, 3) := by decide +kernel
theorem d_R_act_38 : decode c_R_act 38 = .ok (.ireturn, 1) := by decide +kernel
theorem d_R_act_39 : decode c_R_act 39 = .ok (.aload_n 0, 1) := by decide +kernel
theorem d_R_act_40 : decode c_R_act 40 = .ok (.getfield 44, 3) := by decide +kernel
theorem d_R_act_43 : decode c_R_act 43 = .ok (.iload_n 1, 1) := by decide +kernel
theorem d_R_act_44 : decode c_R_act 44 = .ok (.iaload, 1) := by decide +kernel
theorem d_R_act_45 : decode c_R_act 45 = .ok (.bipush 8, 2) := by decide +kernel
theorem d_R_act_47 : decode c_R_act 47 = .ok (.if_icmp .ne 9, 3) := by decide +kernel
theorem d_R_act_50 : decode c_R_act 50 = .ok (.aload_n 0, 1) := by decide +kernel
theorem d_R_act_51 : decode c_R_act 51 = .ok (.iconst 2, 1) := by decide +kernel
theorem d_R_act_52 : decode c_R_act 52 = .ok (.invokevirtual 143, 3) := by decide +kernel
theorem d_R_act_55 : decode c_R_act 55 = .ok (.ireturn, 1) := by decide +kernel
theorem d_R_act_56 : decode c_R_act 56 = .ok (.iload_n 1, 1) := by decide +kernel
theorem d_R_act_57 : decode c_R_act 57 = .ok (.bipush 8, 2) := by decide +kernel
theorem d_R_act_59 : decode c_R_act 59 = .ok (.imul, 1) := by decide +kernel
theorem d_R_act_60 : decode c_R_act 60 = .ok (.aload_n 0, 1) := by decide +kernel
theorem d_R_act_61 : decode c_R_act 61 = .ok (.getfield 44, 3) := by decide +kernel
theorem d_R_act_64 : decode c_R_act 64 = .ok (.iload_n 1, 1) := by decide +kernel
theorem d_R_act_65 : decode c_R_act 65 = .ok (.iaload, 1) := by decide +kernel
theorem d_R_act_66 : decode c_R_act 66 = .ok (.iadd, 1) := by decide +kernel
theorem d_R_act_67 : decode c_R_act 67 = .ok (.istore 5, 2) := by decide +kernel
theorem d_R_act_69 : decode c_R_act 69 = .ok (.aload_n 0, 1) := by decide +kernel
theorem d_R_act_70 : decode c_R_act 70 = .ok (.getfield 48, 3) := by decide +kernel
theorem d_R_act_73 : decode c_R_act 73 = .ok (.iload 5, 2) := by decide +kernel
theorem d_R_act_75 : decode c_R_act 75 = .ok (.iload_n 2, 1) := by decide +kernel
theorem d_R_act_76 : decode c_R_act 76 = .ok (.iastore, 1) := by decide +kernel
theorem d_R_act_77 : decode c_R_act 77 = .ok (.aload_n 0, 1) := by decide +kernel
theorem d_R_act_78 : decode c_R_act 78 = .ok (.getfield 51, 3) := by decide +kernel
theorem d_R_act_81 : decode c_R_act 81 = .ok (.iload 5, 2) := by decide +kernel
theorem d_R_act_83 : decode c_R_act 83 = .ok (.iload_n 3, 1) := by decide +kernel
theorem d_R_act_84 : decode c_R_act 84 = .ok (.iastore, 1) := by decide +kernel
theorem d_R_act_85 : decode c_R_act 85 = .ok (.aload_n 0, 1) := by decide +kernel
theorem d_R_act_86 : decode c_R_act 86 = .ok (.getfield 54, 3) := by decide +kernel
theorem d_R_act_89 : decode c_R_act 89 = .ok (.iload 5, 2) := by decide +kernel
theorem d_R_act_91 : decode c_R_act 91 = .ok (.iload 4, 2) := by decide +kernel
theorem d_R_act_93 : decode c_R_act 93 = .ok (.iastore, 1) := by decide +kernel
theorem d_R_act_94 : decode c_R_act 94 = .ok (.aload_n 0, 1) := by decide +kernel
theorem d_R_act_95 : decode c_R_act 95 = .ok (.getfield 44, 3) := by decide +kernel
theorem d_R_act_98 : decode c_R_act 98 = .ok (.iload_n 1, 1) := by decide +kernel
theorem d_R_act_99 : decode c_R_act 99 = .ok (.dup2, 1) := by decide +kernel
theorem d_R_act_100 : decode c_R_act 100 = .ok (.iaload, 1) := by decide +kernel
theorem d_R_act_101 : decode c_R_act 101 = .ok (.iconst 1, 1) := by decide +kernel
theorem d_R_act_102 : decode c_R_act 102 = .ok (.iadd, 1) := by decide +kernel
theorem d_R_act_103 : decode c_R_act 103 = .ok (.iastore, 1) := by decide +kernel
theorem d_R_act_104 : decode c_R_act 104 = .ok (.aload_n 0, 1) := by decide +kernel
theorem d_R_act_105 : decode c_R_act 105 = .ok (.aload_n 0, 1) := by decide +kernel
theorem d_R_act_106 : decode c_R_act 106 = .ok (.getfield 44, 3) := by decide +kernel
theorem d_R_act_109 : decode c_R_act 109 = .ok (.iload_n 1, 1) := by decide +kernel
theorem d_R_act_110 : decode c_R_act 110 = .ok (.iaload, 1) := by decide +kernel
theorem d_R_act_111 : decode c_R_act 111 = .ok (.invokevirtual 147, 3) := by decide +kernel
theorem d_R_act_114 : decode c_R_act 114 = .ok (.ireturn, 1) := by decide +kernel
theorem d_R_out_0 : decode c_R_out 0 = .ok (.iload_n 1, 1) := by decide +kernel
theorem d_R_out_1 : decode c_R_out 1 = .ok (.iload_n 2, 1) := by decide +kernel
theorem d_R_out_2 : decode c_R_out 2 = .ok (.if_icmp .lt 8, 3) := by decide +kernel
theorem d_R_out_5 : decode c_R_out 5 = .ok (.iload_n 1, 1) := by decide +kernel
theorem d_R_out_6 : decode c_R_out 6 = .ok (.iload_n 3, 1) := by decide +kernel
theorem d_R_out_7 : decode c_R_out 7 = .ok (.if_icmp .le 7, 3) := by decide +kernel
theorem d_R_out_10 : decode c_R_out 10 = .ok (.iconst 1, 1) := by decide +kernel
theorem d_R_out_11 : decode c_R_out 11 = .ok (.goto 4, 3) := by decide +kernel
theorem d_R_out_14 : decode c_R_out 14 = .ok (.iconst 0, 1) := by decide +kernel
theorem d_R_out_15 : decode c_R_out 15 = .ok (.ireturn, 1) := by decide +kernel
theorem d_R_wrong_0 : decode c_R_wrong 0 = .ok (.iload_n 1, 1) := by decide +kernel
theorem d_R_wrong_1 : decode c_R_wrong 1 = .ok (.iconst 3, 1) := by decide +kernel
theorem d_R_wrong_2 : decode c_R_wrong 2 = .ok (.if_icmp .eq 27, 3) := by decide +kernel
theorem d_R_wrong_5 : decode c_R_wrong 5 = .ok (.iload_n 1, 1) := by decide +kernel
theorem d_R_wrong_6 : decode c_R_wrong 6 = .ok (.bipush 8, 2) := by decide +kernel
theorem d_R_wrong_8 : decode c_R_wrong 8 = .ok (.if_icmp .eq 21, 3) := by decide +kernel
theorem d_R_wrong_11 : decode c_R_wrong 11 = .ok (.iload_n 1, 1) := by decide +kernel
theorem d_R_wrong_12 : decode c_R_wrong 12 = .ok (.bipush 9, 2) := by decide +kernel
theorem d_R_wrong_14 : decode c_R_wrong 14 = .ok (.if_icmp .eq 15, 3) := by decide +kernel
theorem d_R_wrong_17 : decode c_R_wrong 17 = .ok (.iload_n 1, 1) := by decide +kernel
theorem d_R_wrong_18 : decode c_R_wrong 18 = .ok (.bipush 10, 2) := by decide +kernel
theorem d_R_wrong_20 : decode c_R_wrong 20 = .ok (.if_icmp .le 22, 3) := by decide +kernel
theorem d_R_wrong_23 : decode c_R_wrong 23 = .ok (.iload_n 1, 1) := by decide +kernel
theorem d_R_wrong_24 : decode c_R_wrong 24 = .ok (.bipush 14, 2) := by decide +kernel
theorem d_R_wrong_26 : decode c_R_wrong 26 = .ok (.if_icmp .ge 16, 3) := by decide +kernel
theorem d_R_wrong_29 : decode c_R_wrong 29 = .ok (.aload_n 0, 1) := by decide +kernel
theorem d_R_wrong_30 : decode c_R_wrong 30 = .ok (.iload_n 2, 1) := by decide +kernel
theorem d_R_wrong_31 : decode c_R_wrong 31 = .ok (.iconst 0, 1) := by decide +kernel
theorem d_R_wrong_32 : decode c_R_wrong 32 = .ok (.bipush 9, 2) := by decide +kernel
theorem d_R_wrong_34 : decode c_R_wrong 34 = .ok (.invokevirtual 136, 3) := by decide +kernel
theorem d_R_wrong_37 : decode c_R_wrong 37 = .ok (.ifCond .eq 5, 3) := by decide +kernel
theorem d_R_wrong_40 : decode c_R_wrong 40 = .ok (.iconst 1, 1) := by decide +kernel
theorem d_R_wrong_41 : decode c_R_wrong 41 = .ok (.ireturn, 1) := by decide +kernel
theorem d_R_wrong_42 : decode c_R_wrong 42 = .ok (.iload_n 1, 1) := by decide +kernel
theorem d_R_wrong_43 : decode c_R_wrong 43 = .ok (.bipush 9, 2) := by decide +kernel
theorem d_R_wrong_45 : decode c_R_wrong 45 = .ok (.if_icmp .le 20, 3) := by decide +kernel
theorem d_R_wrong_48 : decode c_R_wrong 48 = .ok (.iload_n 1, 1) := by decide +kernel
theorem d_R_wrong_49 : decode c_R_wrong 49 = .ok (.bipush 13, 2) := by decide +kernel
theorem d_R_wrong_51 : decode c_R_wrong 51 = .ok (.if_icmp .ge 14, 3) := by decide +kernel
theorem d_R_wrong_54 : decode c_R_wrong 54 = .ok (.aload_n 0, 1) := by decide +kernel
theorem d_R_wrong_55 : decode c_R_wrong 55 = .ok (.iload_n 3, 1) := by decide +kernel
theorem d_R_wrong_56 : decode c_R_wrong 56 = .ok (.iconst 0, 1) := by decide +kernel
theorem d_R_wrong_57 : decode c_R_wrong 57 = .ok (.bipush 9, 2) := by decide +kernel
theorem d_R_wrong_59 : decode c_R_wrong 59 = .ok (.invokevirtual 136, 3) := by decide +kernel
theorem d_R_wrong_62 : decode c_R_wrong 62 = .ok (.ifCond .ne 18, 3) := by decide +kernel
theorem d_R_wrong_65 : decode c_R_wrong 65 = .ok (.iload_n 1, 1) := by decide +kernel
theorem d_R_wrong_66 : decode c_R_wrong 66 = .ok (.iconst 3, 1) := by decide +kernel
theorem d_R_wrong_67 : decode c_R_wrong 67 = .ok (.if_icmp .ne 15, 3) := by decide +kernel
theorem d_R_wrong_70 : decode c_R_wrong 70 = .ok (.aload_n 0, 1) := by decide +kernel
theorem d_R_wrong_71 : decode c_R_wrong 71 = .ok (.iload_n 3, 1) := by decide +kernel
theorem d_R_wrong_72 : decode c_R_wrong 72 = .ok (.iconst 0, 1) := by decide +kernel
theorem d_R_wrong_73 : decode c_R_wrong 73 = .ok (.iconst 2, 1) := by decide +kernel
theorem d_R_wrong_74 : decode c_R_wrong 74 = .ok (.invokevirtual 136, 3) := by decide +kernel
theorem d_R_wrong_77 : decode c_R_wrong 77 = .ok (.ifCond .eq 5, 3) := by decide +kernel
theorem d_R_wrong_80 : decode c_R_wrong 80 = .ok (.iconst 1, 1) := by decide +kernel
theorem d_R_wrong_81 : decode c_R_wrong 81 = .ok (.ireturn, 1) := by decide +kernel
theorem d_R_wrong_82 : decode c_R_wrong 82 = .ok (.iload_n 1, 1) := by decide +kernel
theorem d_R_wrong_83 : decode c_R_wrong 83 = .ok (.iconst 4, 1) := by decide +kernel
theorem d_R_wrong_84 : decode c_R_wrong 84 = .ok (.if_icmp .eq 14, 3) := by decide +kernel
theorem d_R_wrong_87 : decode c_R_wrong 87 = .ok (.iload_n 1, 1) := by decide +kernel
theorem d_R_wrong_88 : decode c_R_wrong 88 = .ok (.iconst 5, 1) := by decide +kernel
theorem d_R_wrong_89 : decode c_R_wrong 89 = .ok (.if_icmp .eq 9, 3) := by decide +kernel
theorem d_R_wrong_92 : decode c_R_wrong 92 = .ok (.iload_n 1, 1) := by decide +kernel
theorem d_R_wrong_93 : decode c_R_wrong 93 = .ok (.bipush 6, 2) := by decide +kernel
theorem d_R_wrong_95 : decode c_R_wrong 95 = .ok (.if_icmp .ne 25, 3) := by decide +kernel
theorem d_R_wrong_98 : decode c_R_wrong 98 = .ok (.aload_n 0, 1) := by decide +kernel
theorem d_R_wrong_99 : decode c_R_wrong 99 = .ok (.iload_n 2, 1) := by decide +kernel
theorem d_R_wrong_100 : decode c_R_wrong 100 = .ok (.iload_n 1, 1) := by decide +kernel
theorem d_R_wrong_101 : decode c_R_wrong 101 = .ok (.bipush 6, 2) := by decide +kernel
theorem d_R_wrong_103 : decode c_R_wrong 103 = .ok (.if_icmp .ne 7, 3) := by decide +kernel
theorem d_R_wrong_106 : decode c_R_wrong 106 = .ok (.iconst (-1), 1) := by decide +kernel
theorem d_R_wrong_107 : decode c_R_wrong 107 = .ok (.goto 4, 3) := by decide +kernel
theorem d_R_wrong_110 : decode c_R_wrong 110 = .ok (.iconst 0, 1) := by decide +kernel
theorem d_R_wrong_111 : decode c_R_wrong 111 = .ok (.iconst 2, 1) := by decide +kernel
theorem d_R_wrong_112 : decode c_R_wrong 112 = .ok (.invokevirtual 136, 3) := by decide +kernel
theorem d_R_wrong_115 : decode c_R_wrong 115 = .ok (.ifCond .eq 5, 3) := by decide +kernel
theorem d_R_wrong_118 : decode c_R_wrong 118 = .ok (.iconst 1, 1) := by decide +kernel
theorem d_R_wrong_119 : decode c_R_wrong 119 = .ok (.ireturn, 1) := by decide +kernel
theorem d_R_wrong_120 : decode c_R_wrong 120 = .ok (.iload_n 1, 1) := by decide +kernel
theorem d_R_wrong_121 : decode c_R_wrong 121 = .ok (.iconst 1, 1) := by decide +kernel
theorem d_R_wrong_122 : decode c_R_wrong 122 = .ok (.if_icmp .eq 9, 3) := by decide +kernel
theorem d_R_wrong_125 : decode c_R_wrong 125 = .ok (.iload_n 1, 1) := by decide +kernel
theorem d_R_wrong_126 : decode c_R_wrong 126 = .ok (.bipush 10, 2) := by decide +kernel
theorem d_R_wrong_128 : decode c_R_wrong 128 = .ok (.if_icmp .ne 14, 3) := by decide +kernel
theorem d_R_wrong_131 : decode c_R_wrong 131 = .ok (.aload_n 0, 1) := by decide +kernel
theorem d_R_wrong_132 : decode c_R_wrong 132 = .ok (.iload_n 2, 1) := by decide +kernel
theorem d_R_wrong_133 : decode c_R_wrong 133 = .ok (.iconst 1, 1) := by decide +kernel
theorem d_R_wrong_134 : decode c_R_wrong 134 = .ok (.bipush 50, 2) := by decide +kernel
theorem d_R_wrong_136 : decode c_R_wrong 136 = .ok (.invokevirtual 136, 3) := by decide +kernel
theorem d_R_wrong_139 : decode c_R_wrong 139 = .ok (.ifCond .ne 20, 3) := by decide +kernel
theorem d_R_wrong_142 : decode c_R_wrong 142 = .ok (.iload_n 1, 1) := by decide +kernel
theorem d_R_wrong_143 : decode c_R_wrong 143 = .ok (.bipush 7, 2) := by decide +kernel
theorem d_R_wrong_145 : decode c_R_wrong 145 = .ok (.if_icmp .ne 18, 3) := by decide +kernel
theorem d_R_wrong_148 : decode c_R_wrong 148 = .ok (.aload_n 0, 1) := by decide +kernel
theorem d_R_wrong_149 : decode c_R_wrong 149 = .ok (.iload_n 2, 1) := by decide +kernel
theorem d_R_wrong_150 : decode c_R_wrong 150 = .ok (.iconst 1, 1) := by decide +kernel
theorem d_R_wrong_151 : decode c_R_wrong 151 = .ok (.bipush 89, 2) := by decide +kernel
theorem d_R_wrong_153 : decode c_R_wrong 153 = .ok (.invokevirtual 136, 3) := by decide +kernel
theorem d_R_wrong_156 : decode c_R_wrong 156 = .ok (.ifCond .eq 7, 3) := by decide +kernel
theorem d_R_wrong_159 : decode c_R_wrong 159 = .ok (.iconst 1, 1) := by decide +kernel
theorem d_R_wrong_160 : decode c_R_wrong 160 = .ok (.goto 4, 3) := by decide +kernel
theorem d_R_wrong_163 : decode c_R_wrong 163 = .ok (.iconst 0, 1) := by decide +kernel
theorem d_R_wrong_164 : decode c_R_wrong 164 = .ok (.ireturn, 1) := by decide +kernel
theorem d_R_refuse_0 : decode c_R_refuse 0 = .ok (.aload_n 0, 1) := by decide +kernel
theorem d_R_refuse_1 : decode c_R_refuse 1 = .ok (.iload_n 1, 1) := by decide +kernel
theorem d_R_refuse_2 : decode c_R_refuse 2 = .ok (.putfield 7, 3) := by decide +kernel
theorem d_R_refuse_5 : decode c_R_refuse 5 = .ok (.iconst 0, 1) := by decide +kernel
theorem d_R_refuse_6 : decode c_R_refuse 6 = .ok (.ireturn, 1) := by decide +kernel
theorem d_R_fine_0 : decode c_R_fine 0 = .ok (.aload_n 0, 1) := by decide +kernel
theorem d_R_fine_1 : decode c_R_fine 1 = .ok (.iconst 0, 1) := by decide +kernel
theorem d_R_fine_2 : decode c_R_fine 2 = .ok (.putfield 7, 3) := by decide +kernel
theorem d_R_fine_5 : decode c_R_fine 5 = .ok (.iload_n 1, 1) := by decide +kernel
theorem d_R_fine_6 : decode c_R_fine 6 = .ok (.ireturn, 1) := by decide +kernel
theorem d_R_start_0 : decode c_R_start 0 = .ok (.aload_n 0, 1) := by decide +kernel
theorem d_R_start_1 : decode c_R_start 1 = .ok (.iload_n 1, 1) := by decide +kernel
theorem d_R_start_2 : decode c_R_start 2 = .ok (.iconst 0, 1) := by decide +kernel
theorem d_R_start_3 : decode c_R_start 3 = .ok (.bipush 9, 2) := by decide +kernel
theorem d_R_start_5 : decode c_R_start 5 = .ok (.invokevirtual 136, 3) := by decide +kernel
theorem d_R_start_8 : decode c_R_start 8 = .ok (.ifCond .eq 9, 3) := by decide +kernel
theorem d_R_start_11 : decode c_R_start 11 = .ok (.aload_n 0, 1) := by decide +kernel
theorem d_R_start_12 : decode c_R_start 12 = .ok (.iconst 1, 1) := by decide +kernel
theorem d_R_start_13 : decode c_R_start 13 = .ok (.invokevirtual 143, 3) := by decide +kernel
theorem d_R_start_16 : decode c_R_start 16 = .ok (.ireturn, 1) := by decide +kernel
theorem d_R_start_17 : decode c_R_start 17 = .ok (.aload_n 0, 1) := by decide +kernel
theorem d_R_start_18 : decode c_R_start 18 = .ok (.getfield 13, 3) := by decide +kernel
theorem d_R_start_21 : decode c_R_start 21 = .ok (.bipush 24, 2) := by decide +kernel
theorem d_R_start_23 : decode c_R_start 23 = .ok (.if_icmp .ne 11, 3) := by decide +kernel
theorem d_R_start_26 : decode c_R_start 26 = .ok (.aload_n 0, 1) := by decide +kernel
theorem d_R_start_27 : decode c_R_start 27 = .ok (.iconst 2, 1) := by decide +kernel
theorem d_R_start_28 : decode c_R_start 28 = .ok (.invokevirtual 143, 3) := by decide +kernel
theorem d_R_start_31 : decode c_R_start 31 = .ok (.goto 14, 3) := by decide +kernel
theorem d_R_start_34 : decode c_R_start 34 = .ok (.aload_n 0, 1) := by decide +kernel
theorem d_R_start_35 : decode c_R_start 35 = .ok (.aload_n 0, 1) := by decide +kernel
theorem d_R_start_36 : decode c_R_start 36 = .ok (.iload_n 1, 1) := by decide +kernel
theorem d_R_start_37 : decode c_R_start 37 = .ok (.iconst (-1), 1) := by decide +kernel
theorem d_R_start_38 : decode c_R_start 38 = .ok (.iconst 0, 1) := by decide +kernel
theorem d_R_start_39 : decode c_R_start 39 = .ok (.invokevirtual 158, 3) := by decide +kernel
theorem d_R_start_42 : decode c_R_start 42 = .ok (.invokevirtual 147, 3) := by decide +kernel
theorem d_R_start_45 : decode c_R_start 45 = .ok (.ireturn, 1) := by decide +kernel
theorem d_R_begin_0 : decode c_R_begin 0 = .ok (.aload_n 0, 1) := by decide +kernel
theorem d_R_begin_1 : decode c_R_begin 1 = .ok (.getfield 13, 3) := by decide +kernel
theorem d_R_begin_4 : decode c_R_begin 4 = .ok (.istore 4, 2) := by decide +kernel
theorem d_R_begin_6 : decode c_R_begin 6 = .ok (.aload_n 0, 1) := by decide +kernel
theorem d_R_begin_7 : decode c_R_begin 7 = .ok (.dup, 1) := by decide +kernel
theorem d_R_begin_8 : decode c_R_begin 8 = .ok (.getfield 13, 3) := by decide +kernel
theorem d_R_begin_11 : decode c_R_begin 11 = .ok (.iconst 1, 1) := by decide +kernel
theorem d_R_begin_12 : decode c_R_begin 12 = .ok (.iadd, 1) := by decide +kernel
theorem d_R_begin_13 : decode c_R_begin 13 = .ok (.putfield 13, 3) := by decide +kernel
theorem d_R_begin_16 : decode c_R_begin 16 = .ok (.aload_n 0, 1) := by decide +kernel
theorem d_R_begin_17 : decode c_R_begin 17 = .ok (.getfield 60, 3) := by decide +kernel
theorem d_R_begin_20 : decode c_R_begin 20 = .ok (.iload 4, 2) := by decide +kernel
theorem d_R_begin_22 : decode c_R_begin 22 = .ok (.iload_n 2, 1) := by decide +kernel
theorem d_R_begin_23 : decode c_R_begin 23 = .ok (.iastore, 1) := by decide +kernel
theorem d_R_begin_24 : decode c_R_begin 24 = .ok (.aload_n 0, 1) := by decide +kernel
theorem d_R_begin_25 : decode c_R_begin 25 = .ok (.getfield 63, 3) := by decide +kernel
theorem d_R_begin_28 : decode c_R_begin 28 = .ok (.iload 4, 2) := by decide +kernel
theorem d_R_begin_30 : decode c_R_begin 30 = .ok (.iload_n 3, 1) := by decide +kernel
theorem d_R_begin_31 : decode c_R_begin 31 = .ok (.iastore, 1) := by decide +kernel
theorem d_R_begin_32 : decode c_R_begin 32 = .ok (.aload_n 0, 1) := by decide +kernel
theorem d_R_begin_33 : decode c_R_begin 33 = .ok (.getfield 69, 3) := by decide +kernel
theorem d_R_begin_36 : decode c_R_begin 36 = .ok (.iload 4, 2) := by decide +kernel
theorem d_R_begin_38 : decode c_R_begin 38 = .ok (.iconst (-1), 1) := by decide +kernel
theorem d_R_begin_39 : decode c_R_begin 39 = .ok (.iastore, 1) := by decide +kernel
theorem d_R_begin_40 : decode c_R_begin 40 = .ok (.aload_n 0, 1) := by decide +kernel
theorem d_R_begin_41 : decode c_R_begin 41 = .ok (.getfield 106, 3) := by decide +kernel
theorem d_R_begin_44 : decode c_R_begin 44 = .ok (.iload 4, 2) := by decide +kernel
theorem d_R_begin_46 : decode c_R_begin 46 = .ok (.iconst (-1), 1) := by decide +kernel
theorem d_R_begin_47 : decode c_R_begin 47 = .ok (.iastore, 1) := by decide +kernel
theorem d_R_begin_48 : decode c_R_begin 48 = .ok (.iconst 0, 1) := by decide +kernel
theorem d_R_begin_49 : decode c_R_begin 49 = .ok (.istore 5, 2) := by decide +kernel
theorem d_R_begin_51 : decode c_R_begin 51 = .ok (.iload 5, 2) := by decide +kernel
theorem d_R_begin_53 : decode c_R_begin 53 = .ok (.iconst 3, 1) := by decide +kernel
theorem d_R_begin_54 : decode c_R_begin 54 = .ok (.if_icmp .ge 22, 3) := by decide +kernel
theorem d_R_begin_57 : decode c_R_begin 57 = .ok (.aload_n 0, 1) := by decide +kernel
theorem d_R_begin_58 : decode c_R_begin 58 = .ok (.getfield 78, 3) := by decide +kernel
theorem d_R_begin_61 : decode c_R_begin 61 = .ok (.iload 4, 2) := by decide +kernel
theorem d_R_begin_63 : decode c_R_begin 63 = .ok (.iconst 3, 1) := by decide +kernel
theorem d_R_begin_64 : decode c_R_begin 64 = .ok (.imul, 1) := by decide +kernel
theorem d_R_begin_65 : decode c_R_begin 65 = .ok (.iload 5, 2) := by decide +kernel
theorem d_R_begin_67 : decode c_R_begin 67 = .ok (.iadd, 1) := by decide +kernel
theorem d_R_begin_68 : decode c_R_begin 68 = .ok (.iconst (-1), 1) := by decide +kernel
theorem d_R_begin_69 : decode c_R_begin 69 = .ok (.iastore, 1) := by decide +kernel
theorem d_R_begin_70 : decode c_R_begin 70 = .ok (.iinc 5 1, 3) := by decide +kernel
theorem d_R_begin_73 : decode c_R_begin 73 = .ok (.goto (-22), 3) := by decide +kernel
theorem d_R_begin_76 : decode c_R_begin 76 = .ok (.aload_n 0, 1) := by decide +kernel
theorem d_R_begin_77 : decode c_R_begin 77 = .ok (.getfield 75, 3) := by decide +kernel
theorem d_R_begin_80 : decode c_R_begin 80 = .ok (.iload 4, 2) := by decide +kernel
theorem d_R_begin_82 : decode c_R_begin 82 = .ok (.iconst 0, 1) := by decide +kernel
theorem d_R_begin_83 : decode c_R_begin 83 = .ok (.iastore, 1) := by decide +kernel
theorem d_R_begin_84 : decode c_R_begin 84 = .ok (.aload_n 0, 1) := by decide +kernel
theorem d_R_begin_85 : decode c_R_begin 85 = .ok (.iload 4, 2) := by decide +kernel
theorem d_R_begin_87 : decode c_R_begin 87 = .ok (.iload_n 1, 1) := by decide +kernel
theorem d_R_begin_88 : decode c_R_begin 88 = .ok (.iconst 0, 1) := by decide +kernel
theorem d_R_begin_89 : decode c_R_begin 89 = .ok (.iconst 0, 1) := by decide +kernel
theorem d_R_begin_90 : decode c_R_begin 90 = .ok (.iconst (-1), 1) := by decide +kernel
theorem d_R_begin_91 : decode c_R_begin 91 = .ok (.invokevirtual 150, 3) := by decide +kernel
theorem d_R_begin_94 : decode c_R_begin 94 = .ok (.aload_n 0, 1) := by decide +kernel
theorem d_R_begin_95 : decode c_R_begin 95 = .ok (.iload 4, 2) := by decide +kernel
theorem d_R_begin_97 : decode c_R_begin 97 = .ok (.iconst (-1), 1) := by decide +kernel
theorem d_R_begin_98 : decode c_R_begin 98 = .ok (.invokevirtual 154, 3) := by decide +kernel
theorem d_R_begin_101 : decode c_R_begin 101 = .ok (.iload 4, 2) := by decide +kernel
theorem d_R_begin_103 : decode c_R_begin 103 = .ok (.ireturn, 1) := by decide +kernel
theorem d_R_pushFrame_0 : decode c_R_pushFrame 0 = .ok (.iload_n 1, 1) := by decide +kernel
theorem d_R_pushFrame_1 : decode c_R_pushFrame 1 = .ok (.bipush 6, 2) := by decide +kernel
theorem d_R_pushFrame_3 : decode c_R_pushFrame 3 = .ok (.imul, 1) := by decide +kernel
theorem d_R_pushFrame_4 : decode c_R_pushFrame 4 = .ok (.aload_n 0, 1) := by decide +kernel
theorem d_R_pushFrame_5 : decode c_R_pushFrame 5 = .ok (.getfield 75, 3) := by decide +kernel
theorem d_R_pushFrame_8 : decode c_R_pushFrame 8 = .ok (.iload_n 1, 1) := by decide +kernel
theorem d_R_pushFrame_9 : decode c_R_pushFrame 9 = .ok (.iaload, 1) := by decide +kernel
theorem d_R_pushFrame_10 : decode c_R_pushFrame 10 = .ok (.iadd, 1) := by decide +kernel
theorem d_R_pushFrame_11 : decode c_R_pushFrame 11 = .ok (.istore 6, 2) := by decide +kernel
theorem d_R_pushFrame_13 : decode c_R_pushFrame 13 = .ok (.aload_n 0, 1) := by decide +kernel
theorem d_R_pushFrame_14 : decode c_R_pushFrame 14 = .ok (.getfield 112, 3) := by decide +kernel
theorem d_R_pushFrame_17 : decode c_R_pushFrame 17 = .ok (.iload 6, 2) := by decide +kernel
theorem d_R_pushFrame_19 : decode c_R_pushFrame 19 = .ok (.iload_n 2, 1) := by decide +kernel
theorem d_R_pushFrame_20 : decode c_R_pushFrame 20 = .ok (.iastore, 1) := by decide +kernel
theorem d_R_pushFrame_21 : decode c_R_pushFrame 21 = .ok (.aload_n 0, 1) := by decide +kernel
theorem d_R_pushFrame_22 : decode c_R_pushFrame 22 = .ok (.getfield 115, 3) := by decide +kernel
theorem d_R_pushFrame_25 : decode c_R_pushFrame 25 = .ok (.iload 6, 2) := by decide +kernel
theorem d_R_pushFrame_27 : decode c_R_pushFrame 27 = .ok (.iconst 0, 1) := by decide +kernel
theorem d_R_pushFrame_28 : decode c_R_pushFrame 28 = .ok (.iastore, 1) := by decide +kernel
theorem d_R_pushFrame_29 : decode c_R_pushFrame 29 = .ok (.aload_n 0, 1) := by decide +kernel
theorem d_R_pushFrame_30 : decode c_R_pushFrame 30 = .ok (.getfield 118, 3) := by decide +kernel
theorem d_R_pushFrame_33 : decode c_R_pushFrame 33 = .ok (.iload 6, 2) := by decide +kernel
theorem d_R_pushFrame_35 : decode c_R_pushFrame 35 = .ok (.iload_n 3, 1) := by decide +kernel
theorem d_R_pushFrame_36 : decode c_R_pushFrame 36 = .ok (.iastore, 1) := by decide +kernel
theorem d_R_pushFrame_37 : decode c_R_pushFrame 37 = .ok (.aload_n 0, 1) := by decide +kernel
theorem d_R_pushFrame_38 : decode c_R_pushFrame 38 = .ok (.getfield 121, 3) := by decide +kernel
theorem d_R_pushFrame_41 : decode c_R_pushFrame 41 = .ok (.iload 6, 2) := by decide +kernel
theorem d_R_pushFrame_43 : decode c_R_pushFrame 43 = .ok (.iload 4, 2) := by decide +kernel
theorem d_R_pushFrame_45 : decode c_R_pushFrame 45 = .ok (.iastore, 1) := by decide +kernel
theorem d_R_pushFrame_46 : decode c_R_pushFrame 46 = .ok (.aload_n 0, 1) := by decide +kernel
theorem d_R_pushFrame_47 : decode c_R_pushFrame 47 = .ok (.getfield 124, 3) := by decide +kernel
theorem d_R_pushFrame_50 : decode c_R_pushFrame 50 = .ok (.iload 6, 2) := by decide +kernel
theorem d_R_pushFrame_52 : decode c_R_pushFrame 52 = .ok (.iload 5, 2) := by decide +kernel
theorem d_R_pushFrame_54 : decode c_R_pushFrame 54 = .ok (.iastore, 1) := by decide +kernel
theorem d_R_pushFrame_55 : decode c_R_pushFrame 55 = .ok (.aload_n 0, 1) := by decide +kernel
theorem d_R_pushFrame_56 : decode c_R_pushFrame 56 = .ok (.getfield 75, 3) := by decide +kernel
theorem d_R_pushFrame_59 : decode c_R_pushFrame 59 = .ok (.iload_n 1, 1) := by decide +kernel
theorem d_R_pushFrame_60 : decode c_R_pushFrame 60 = .ok (.dup2, 1) := by decide +kernel
theorem d_R_pushFrame_61 : decode c_R_pushFrame 61 = .ok (.iaload, 1) := by decide +kernel
theorem d_R_pushFrame_62 : decode c_R_pushFrame 62 = .ok (.iconst 1, 1) := by decide +kernel
theorem d_R_pushFrame_63 : decode c_R_pushFrame 63 = .ok (.iadd, 1) := by decide +kernel
theorem d_R_pushFrame_64 : decode c_R_pushFrame 64 = .ok (.iastore, 1) := by decide +kernel
theorem d_R_pushFrame_65 : decode c_R_pushFrame 65 = .ok (.return_, 1) := by decide +kernel
theorem d_R_putReady_0 : decode c_R_putReady 0 = .ok (.aload_n 0, 1) := by decide +kernel
theorem d_R_putReady_1 : decode c_R_putReady 1 = .ok (.getfield 91, 3) := by decide +kernel
theorem d_R_putReady_4 : decode c_R_putReady 4 = .ok (.iload_n 1, 1) := by decide +kernel
theorem d_R_putReady_5 : decode c_R_putReady 5 = .ok (.iconst 0, 1) := by decide +kernel
theorem d_R_putReady_6 : decode c_R_putReady 6 = .ok (.iastore, 1) := by decide +kernel
theorem d_R_putReady_7 : decode c_R_putReady 7 = .ok (.aload_n 0, 1) := by decide +kernel
theorem d_R_putReady_8 : decode c_R_putReady 8 = .ok (.getfield 100, 3) := by decide +kernel
theorem d_R_putReady_11 : decode c_R_putReady 11 = .ok (.iload_n 1, 1) := by decide +kernel
theorem d_R_putReady_12 : decode c_R_putReady 12 = .ok (.iconst (-1), 1) := by decide +kernel
theorem d_R_putReady_13 : decode c_R_putReady 13 = .ok (.iastore, 1) := by decide +kernel
theorem d_R_putReady_14 : decode c_R_putReady 14 = .ok (.aload_n 0, 1) := by decide +kernel
theorem d_R_putReady_15 : decode c_R_putReady 15 = .ok (.getfield 81, 3) := by decide +kernel
theorem d_R_putReady_18 : decode c_R_putReady 18 = .ok (.iload_n 1, 1) := by decide +kernel
theorem d_R_putReady_19 : decode c_R_putReady 19 = .ok (.iload_n 2, 1) := by decide +kernel
theorem d_R_putReady_20 : decode c_R_putReady 20 = .ok (.iastore, 1) := by decide +kernel
theorem d_R_putReady_21 : decode c_R_putReady 21 = .ok (.aload_n 0, 1) := by decide +kernel
theorem d_R_putReady_22 : decode c_R_putReady 22 = .ok (.getfield 127, 3) := by decide +kernel
theorem d_R_putReady_25 : decode c_R_putReady 25 = .ok (.aload_n 0, 1) := by decide +kernel
theorem d_R_putReady_26 : decode c_R_putReady 26 = .ok (.getfield 31, 3) := by decide +kernel
theorem d_R_putReady_29 : decode c_R_putReady 29 = .ok (.iload_n 1, 1) := by decide +kernel
theorem d_R_putReady_30 : decode c_R_putReady 30 = .ok (.iastore, 1) := by decide +kernel
theorem d_R_putReady_31 : decode c_R_putReady 31 = .ok (.aload_n 0, 1) := by decide +kernel
theorem d_R_putReady_32 : decode c_R_putReady 32 = .ok (.dup, 1) := by decide +kernel
theorem d_R_putReady_33 : decode c_R_putReady 33 = .ok (.getfield 31, 3) := by decide +kernel
theorem d_R_putReady_36 : decode c_R_putReady 36 = .ok (.iconst 1, 1) := by decide +kernel
theorem d_R_putReady_37 : decode c_R_putReady 37 = .ok (.iadd, 1) := by decide +kernel
theorem d_R_putReady_38 : decode c_R_putReady 38 = .ok (.putfield 31, 3) := by decide +kernel
theorem d_R_putReady_41 : decode c_R_putReady 41 = .ok (.return_, 1) := by decide +kernel
theorem d_R_cancel_0 : decode c_R_cancel 0 = .ok (.iload_n 1, 1) := by decide +kernel
theorem d_R_cancel_1 : decode c_R_cancel 1 = .ok (.ifCond .lt 11, 3) := by decide +kernel
theorem d_R_cancel_4 : decode c_R_cancel 4 = .ok (.iload_n 1, 1) := by decide +kernel
theorem d_R_cancel_5 : decode c_R_cancel 5 = .ok (.aload_n 0, 1) := by decide +kernel
theorem d_R_cancel_6 : decode c_R_cancel 6 = .ok (.getfield 13, 3) := by decide +kernel
theorem d_R_cancel_9 : decode c_R_cancel 9 = .ok (.if_icmp .lt 9, 3) := by decide +kernel
theorem d_R_cancel_12 : decode c_R_cancel 12 = .ok (.aload_n 0, 1) := by decide +kernel
theorem d_R_cancel_13 : decode c_R_cancel 13 = .ok (.iconst 1, 1) := by decide +kernel
theorem d_R_cancel_14 : decode c_R_cancel 14 = .ok (.invokevirtual 143, 3) := by decide +kernel
theorem d_R_cancel_17 : decode c_R_cancel 17 = .ok (.ireturn, 1) := by decide +kernel
theorem d_R_cancel_18 : decode c_R_cancel 18 = .ok (.aload_n 0, 1) := by decide +kernel
theorem d_R_cancel_19 : decode c_R_cancel 19 = .ok (.aload_n 0, 1) := by decide +kernel
theorem d_R_cancel_20 : decode c_R_cancel 20 = .ok (.iload_n 1, 1) := by decide +kernel
theorem d_R_cancel_21 : decode c_R_cancel 21 = .ok (.iconst 0, 1) := by decide +kernel
theorem d_R_cancel_22 : decode c_R_cancel 22 = .ok (.invokevirtual 170, 3) := by decide +kernel
theorem d_R_cancel_25 : decode c_R_cancel 25 = .ok (.ifCond .eq 7, 3) := by decide +kernel
theorem d_R_cancel_28 : decode c_R_cancel 28 = .ok (.iconst 1, 1) := by decide +kernel
theorem d_R_cancel_29 : decode c_R_cancel 29 = .ok (.goto 4, 3) := by decide +kernel
theorem d_R_cancel_32 : decode c_R_cancel 32 = .ok (.iconst 0, 1) := by decide +kernel
theorem d_R_cancel_33 : decode c_R_cancel 33 = .ok (.invokevirtual 147, 3) := by decide +kernel
theorem d_R_cancel_36 : decode c_R_cancel 36 = .ok (.ireturn, 1) := by decide +kernel
theorem d_R_give_0 : decode c_R_give 0 = .ok (.aload_n 0, 1) := by decide +kernel
theorem d_R_give_1 : decode c_R_give 1 = .ok (.getfield 88, 3) := by decide +kernel
theorem d_R_give_4 : decode c_R_give 4 = .ok (.iload_n 1, 1) := by decide +kernel
theorem d_R_give_5 : decode c_R_give 5 = .ok (.baload, 1) := by decide +kernel
theorem d_R_give_6 : decode c_R_give 6 = .ok (.ifCond .eq 5, 3) := by decide +kernel
theorem d_R_give_9 : decode c_R_give 9 = .ok (.iconst 0, 1) := by decide +kernel
theorem d_R_give_10 : decode c_R_give 10 = .ok (.ireturn, 1) := by decide +kernel
theorem d_R_give_11 : decode c_R_give 11 = .ok (.aload_n 0, 1) := by decide +kernel
theorem d_R_give_12 : decode c_R_give 12 = .ok (.getfield 69, 3) := by decide +kernel
theorem d_R_give_15 : decode c_R_give 15 = .ok (.iload_n 1, 1) := by decide +kernel
theorem d_R_give_16 : decode c_R_give 16 = .ok (.iaload, 1) := by decide +kernel
theorem d_R_give_17 : decode c_R_give 17 = .ok (.ifCond .lt 19, 3) := by decide +kernel
theorem d_R_give_20 : decode c_R_give 20 = .ok (.iload_n 2, 1) := by decide +kernel
theorem d_R_give_21 : decode c_R_give 21 = .ok (.ifCond .le 13, 3) := by decide +kernel
theorem d_R_give_24 : decode c_R_give 24 = .ok (.aload_n 0, 1) := by decide +kernel
theorem d_R_give_25 : decode c_R_give 25 = .ok (.getfield 72, 3) := by decide +kernel
theorem d_R_give_28 : decode c_R_give 28 = .ok (.iload_n 1, 1) := by decide +kernel
theorem d_R_give_29 : decode c_R_give 29 = .ok (.dup2, 1) := by decide +kernel
theorem d_R_give_30 : decode c_R_give 30 = .ok (.iaload, 1) := by decide +kernel
theorem d_R_give_31 : decode c_R_give 31 = .ok (.iconst 1, 1) := by decide +kernel
theorem d_R_give_32 : decode c_R_give 32 = .ok (.iadd, 1) := by decide +kernel
theorem d_R_give_33 : decode c_R_give 33 = .ok (.iastore, 1) := by decide +kernel
theorem d_R_give_34 : decode c_R_give 34 = .ok (.iconst 0, 1) := by decide +kernel
theorem d_R_give_35 : decode c_R_give 35 = .ok (.ireturn, 1) := by decide +kernel
theorem d_R_give_36 : decode c_R_give 36 = .ok (.aload_n 0, 1) := by decide +kernel
theorem d_R_give_37 : decode c_R_give 37 = .ok (.getfield 69, 3) := by decide +kernel
theorem d_R_give_40 : decode c_R_give 40 = .ok (.iload_n 1, 1) := by decide +kernel
theorem d_R_give_41 : decode c_R_give 41 = .ok (.iload_n 2, 1) := by decide +kernel
theorem d_R_give_42 : decode c_R_give 42 = .ok (.iastore, 1) := by decide +kernel
theorem d_R_give_43 : decode c_R_give 43 = .ok (.iconst 1, 1) := by decide +kernel
theorem d_R_give_44 : decode c_R_give 44 = .ok (.istore_n 3, 1) := by decide +kernel
theorem d_R_give_45 : decode c_R_give 45 = .ok (.aload_n 0, 1) := by decide +kernel
theorem d_R_give_46 : decode c_R_give 46 = .ok (.getfield 130, 3) := by decide +kernel
theorem d_R_give_49 : decode c_R_give 49 = .ok (.iconst 0, 1) := by decide +kernel
theorem d_R_give_50 : decode c_R_give 50 = .ok (.iload_n 1, 1) := by decide +kernel
theorem d_R_give_51 : decode c_R_give 51 = .ok (.iastore, 1) := by decide +kernel
theorem d_R_give_52 : decode c_R_give 52 = .ok (.aload_n 0, 1) := by decide +kernel
theorem d_R_give_53 : decode c_R_give 53 = .ok (.getfield 133, 3) := by decide +kernel
theorem d_R_give_56 : decode c_R_give 56 = .ok (.iconst 0, 1) := by decide +kernel
theorem d_R_give_57 : decode c_R_give 57 = .ok (.iconst 0, 1) := by decide +kernel
theorem d_R_give_58 : decode c_R_give 58 = .ok (.iastore, 1) := by decide +kernel
theorem d_R_give_59 : decode c_R_give 59 = .ok (.iload_n 3, 1) := by decide +kernel
theorem d_R_give_60 : decode c_R_give 60 = .ok (.ifCond .le 143, 3) := by decide +kernel
theorem d_R_give_63 : decode c_R_give 63 = .ok (.aload_n 0, 1) := by decide +kernel
theorem d_R_give_64 : decode c_R_give 64 = .ok (.getfield 130, 3) := by decide +kernel
theorem d_R_give_67 : decode c_R_give 67 = .ok (.iload_n 3, 1) := by decide +kernel
theorem d_R_give_68 : decode c_R_give 68 = .ok (.iconst 1, 1) := by decide +kernel
theorem d_R_give_69 : decode c_R_give 69 = .ok (.isub, 1) := by decide +kernel
theorem d_R_give_70 : decode c_R_give 70 = .ok (.iaload, 1) := by decide +kernel
theorem d_R_give_71 : decode c_R_give 71 = .ok (.istore 4, 2) := by decide +kernel
theorem d_R_give_73 : decode c_R_give 73 = .ok (.aload_n 0, 1) := by decide +kernel
theorem d_R_give_74 : decode c_R_give 74 = .ok (.iload 4, 2) := by decide +kernel
theorem d_R_give_76 : decode c_R_give 76 = .ok (.aload_n 0, 1) := by decide +kernel
theorem d_R_give_77 : decode c_R_give 77 = .ok (.getfield 133, 3) := by decide +kernel
theorem d_R_give_80 : decode c_R_give 80 = .ok (.iload_n 3, 1) := by decide +kernel
theorem d_R_give_81 : decode c_R_give 81 = .ok (.iconst 1, 1) := by decide +kernel
theorem d_R_give_82 : decode c_R_give 82 = .ok (.isub, 1) := by decide +kernel
theorem d_R_give_83 : decode c_R_give 83 = .ok (.iaload, 1) := by decide +kernel
theorem d_R_give_84 : decode c_R_give 84 = .ok (.invokevirtual 162, 3) := by decide +kernel
theorem d_R_give_87 : decode c_R_give 87 = .ok (.istore 5, 2) := by decide +kernel
theorem d_R_give_89 : decode c_R_give 89 = .ok (.iload 5, 2) := by decide +kernel
theorem d_R_give_91 : decode c_R_give 91 = .ok (.ifCond .lt 57, 3) := by decide +kernel
theorem d_R_give_94 : decode c_R_give 94 = .ok (.aload_n 0, 1) := by decide +kernel
theorem d_R_give_95 : decode c_R_give 95 = .ok (.getfield 133, 3) := by decide +kernel
theorem d_R_give_98 : decode c_R_give 98 = .ok (.iload_n 3, 1) := by decide +kernel
theorem d_R_give_99 : decode c_R_give 99 = .ok (.iconst 1, 1) := by decide +kernel
theorem d_R_give_100 : decode c_R_give 100 = .ok (.isub, 1) := by decide +kernel
theorem d_R_give_101 : decode c_R_give 101 = .ok (.iload 5, 2) := by decide +kernel
theorem d_R_give_103 : decode c_R_give 103 = .ok (.iconst 1, 1) := by decide +kernel
theorem d_R_give_104 : decode c_R_give 104 = .ok (.iadd, 1) := by decide +kernel
theorem d_R_give_105 : decode c_R_give 105 = .ok (.iastore, 1) := by decide +kernel
theorem d_R_give_106 : decode c_R_give 106 = .ok (.aload_n 0, 1) := by decide +kernel
theorem d_R_give_107 : decode c_R_give 107 = .ok (.getfield 69, 3) := by decide +kernel
theorem d_R_give_110 : decode c_R_give 110 = .ok (.iload 5, 2) := by decide +kernel
theorem d_R_give_112 : decode c_R_give 112 = .ok (.iaload, 1) := by decide +kernel
theorem d_R_give_113 : decode c_R_give 113 = .ok (.ifCond .lt 6, 3) := by decide +kernel
theorem d_R_give_116 : decode c_R_give 116 = .ok (.goto (-57), 3) := by decide +kernel
theorem d_R_give_119 : decode c_R_give 119 = .ok (.aload_n 0, 1) := by decide +kernel
theorem d_R_give_120 : decode c_R_give 120 = .ok (.getfield 69, 3) := by decide +kernel
theorem d_R_give_123 : decode c_R_give 123 = .ok (.iload 5, 2) := by decide +kernel
theorem d_R_give_125 : decode c_R_give 125 = .ok (.iconst 0, 1) := by decide +kernel
theorem d_R_give_126 : decode c_R_give 126 = .ok (.iastore, 1) := by decide +kernel
theorem d_R_give_127 : decode c_R_give 127 = .ok (.aload_n 0, 1) := by decide +kernel
theorem d_R_give_128 : decode c_R_give 128 = .ok (.getfield 130, 3) := by decide +kernel
theorem d_R_give_131 : decode c_R_give 131 = .ok (.iload_n 3, 1) := by decide +kernel
theorem d_R_give_132 : decode c_R_give 132 = .ok (.iload 5, 2) := by decide +kernel
theorem d_R_give_134 : decode c_R_give 134 = .ok (.iastore, 1) := by decide +kernel
theorem d_R_give_135 : decode c_R_give 135 = .ok (.aload_n 0, 1) := by decide +kernel
theorem d_R_give_136 : decode c_R_give 136 = .ok (.getfield 133, 3) := by decide +kernel
theorem d_R_give_139 : decode c_R_give 139 = .ok (.iload_n 3, 1) := by decide +kernel
theorem d_R_give_140 : decode c_R_give 140 = .ok (.iconst 0, 1) := by decide +kernel
theorem d_R_give_141 : decode c_R_give 141 = .ok (.iastore, 1) := by decide +kernel
theorem d_R_give_142 : decode c_R_give 142 = .ok (.iinc 3 1, 3) := by decide +kernel
theorem d_R_give_145 : decode c_R_give 145 = .ok (.goto (-86), 3) := by decide +kernel
theorem d_R_give_148 : decode c_R_give 148 = .ok (.iinc 3 (-1), 3) := by decide +kernel
theorem d_R_give_151 : decode c_R_give 151 = .ok (.aload_n 0, 1) := by decide +kernel
theorem d_R_give_152 : decode c_R_give 152 = .ok (.getfield 91, 3) := by decide +kernel
theorem d_R_give_155 : decode c_R_give 155 = .ok (.iload 4, 2) := by decide +kernel
theorem d_R_give_157 : decode c_R_give 157 = .ok (.iaload, 1) := by decide +kernel
theorem d_R_give_158 : decode c_R_give 158 = .ok (.iconst 1, 1) := by decide +kernel
theorem d_R_give_159 : decode c_R_give 159 = .ok (.if_icmp .eq 25, 3) := by decide +kernel
theorem d_R_give_162 : decode c_R_give 162 = .ok (.aload_n 0, 1) := by decide +kernel
theorem d_R_give_163 : decode c_R_give 163 = .ok (.getfield 91, 3) := by decide +kernel
theorem d_R_give_166 : decode c_R_give 166 = .ok (.iload 4, 2) := by decide +kernel
theorem d_R_give_168 : decode c_R_give 168 = .ok (.iaload, 1) := by decide +kernel
theorem d_R_give_169 : decode c_R_give 169 = .ok (.iconst 4, 1) := by decide +kernel
theorem d_R_give_170 : decode c_R_give 170 = .ok (.if_icmp .eq 14, 3) := by decide +kernel
theorem d_R_give_173 : decode c_R_give 173 = .ok (.aload_n 0, 1) := by decide +kernel
theorem d_R_give_174 : decode c_R_give 174 = .ok (.getfield 91, 3) := by decide +kernel
theorem d_R_give_177 : decode c_R_give 177 = .ok (.iload 4, 2) := by decide +kernel
theorem d_R_give_179 : decode c_R_give 179 = .ok (.iaload, 1) := by decide +kernel
theorem d_R_give_180 : decode c_R_give 180 = .ok (.iconst 5, 1) := by decide +kernel
theorem d_R_give_181 : decode c_R_give 181 = .ok (.if_icmp .ne 19, 3) := by decide +kernel
theorem d_R_give_184 : decode c_R_give 184 = .ok (.aload_n 0, 1) := by decide +kernel
theorem d_R_give_185 : decode c_R_give 185 = .ok (.iload 4, 2) := by decide +kernel
theorem d_R_give_187 : decode c_R_give 187 = .ok (.invokevirtual 166, 3) := by decide +kernel
theorem d_R_give_190 : decode c_R_give 190 = .ok (.ifCond .ne 10, 3) := by decide +kernel
theorem d_R_give_193 : decode c_R_give 193 = .ok (.aload_n 0, 1) := by decide +kernel
theorem d_R_give_194 : decode c_R_give 194 = .ok (.iload 4, 2) := by decide +kernel
theorem d_R_give_196 : decode c_R_give 196 = .ok (.iconst 0, 1) := by decide +kernel
theorem d_R_give_197 : decode c_R_give 197 = .ok (.invokevirtual 154, 3) := by decide +kernel
theorem d_R_give_200 : decode c_R_give 200 = .ok (.goto (-141), 3) := by decide +kernel
theorem d_R_give_203 : decode c_R_give 203 = .ok (.iconst 1, 1) := by decide +kernel
theorem d_R_give_204 : decode c_R_give 204 = .ok (.ireturn, 1) := by decide +kernel
theorem d_R_nextChild_0 : decode c_R_nextChild 0 = .ok (.iload_n 2, 1) := by decide +kernel
theorem d_R_nextChild_1 : decode c_R_nextChild 1 = .ok (.istore_n 3, 1) := by decide +kernel
theorem d_R_nextChild_2 : decode c_R_nextChild 2 = .ok (.iload_n 3, 1) := by decide +kernel
theorem d_R_nextChild_3 : decode c_R_nextChild 3 = .ok (.aload_n 0, 1) := by decide +kernel
theorem d_R_nextChild_4 : decode c_R_nextChild 4 = .ok (.getfield 13, 3) := by decide +kernel
theorem d_R_nextChild_7 : decode c_R_nextChild 7 = .ok (.if_icmp .ge 30, 3) := by decide +kernel
theorem d_R_nextChild_10 : decode c_R_nextChild 10 = .ok (.aload_n 0, 1) := by decide +kernel
theorem d_R_nextChild_11 : decode c_R_nextChild 11 = .ok (.getfield 60, 3) := by decide +kernel
theorem d_R_nextChild_14 : decode c_R_nextChild 14 = .ok (.iload_n 3, 1) := by decide +kernel
theorem d_R_nextChild_15 : decode c_R_nextChild 15 = .ok (.iaload, 1) := by decide +kernel
theorem d_R_nextChild_16 : decode c_R_nextChild 16 = .ok (.iload_n 1, 1) := by decide +kernel
theorem d_R_nextChild_17 : decode c_R_nextChild 17 = .ok (.if_icmp .ne 14, 3) := by decide +kernel
theorem d_R_nextChild_20 : decode c_R_nextChild 20 = .ok (.aload_n 0, 1) := by decide +kernel
theorem d_R_nextChild_21 : decode c_R_nextChild 21 = .ok (.getfield 88, 3) := by decide +kernel
