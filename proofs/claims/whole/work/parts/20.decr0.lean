theorem d_R_apply_0 : decode b_R_apply 0 = .ok (.bipush 65, 2) := by decide +kernel
theorem d_R_apply_2 : decode b_R_apply 2 = .ok (.istore 4, 2) := by decide +kernel
theorem d_R_apply_4 : decode b_R_apply 4 = .ok (.iload_n 1, 1) := by decide +kernel
theorem d_R_apply_5 : decode b_R_apply 5 = .ok (.tableswitch 309 0 9 #[55, 74, 99, 111, 111, 133, 167, 230, 271, 290], 55) := by decide +kernel
theorem d_R_apply_60 : decode b_R_apply 60 = .ok (.aload_n 0, 1) := by decide +kernel
theorem d_R_apply_61 : decode b_R_apply 61 = .ok (.getfield 7, 3) := by decide +kernel
theorem d_R_apply_64 : decode b_R_apply 64 = .ok (.iload 4, 2) := by decide +kernel
theorem d_R_apply_66 : decode b_R_apply 66 = .ok (.aload_n 0, 1) := by decide +kernel
theorem d_R_apply_67 : decode b_R_apply 67 = .ok (.getfield 7, 3) := by decide +kernel
theorem d_R_apply_70 : decode b_R_apply 70 = .ok (.iload 4, 2) := by decide +kernel
theorem d_R_apply_72 : decode b_R_apply 72 = .ok (.laload, 1) := by decide +kernel
theorem d_R_apply_73 : decode b_R_apply 73 = .ok (.lload_n 2, 1) := by decide +kernel
theorem d_R_apply_74 : decode b_R_apply 74 = .ok (.ladd, 1) := by decide +kernel
theorem d_R_apply_75 : decode b_R_apply 75 = .ok (.lastore, 1) := by decide +kernel
theorem d_R_apply_76 : decode b_R_apply 76 = .ok (.goto 247, 3) := by decide +kernel
theorem d_R_apply_79 : decode b_R_apply 79 = .ok (.aload_n 0, 1) := by decide +kernel
theorem d_R_apply_80 : decode b_R_apply 80 = .ok (.getfield 13, 3) := by decide +kernel
theorem d_R_apply_83 : decode b_R_apply 83 = .ok (.iload 4, 2) := by decide +kernel
theorem d_R_apply_85 : decode b_R_apply 85 = .ok (.lload_n 2, 1) := by decide +kernel
theorem d_R_apply_86 : decode b_R_apply 86 = .ok (.l2i, 1) := by decide +kernel
theorem d_R_apply_87 : decode b_R_apply 87 = .ok (.iastore, 1) := by decide +kernel
theorem d_R_apply_88 : decode b_R_apply 88 = .ok (.aload_n 0, 1) := by decide +kernel
theorem d_R_apply_89 : decode b_R_apply 89 = .ok (.getfield 17, 3) := by decide +kernel
theorem d_R_apply_92 : decode b_R_apply 92 = .ok (.iload 4, 2) := by decide +kernel
theorem d_R_apply_94 : decode b_R_apply 94 = .ok (.aload_n 0, 1) := by decide +kernel
theorem d_R_apply_95 : decode b_R_apply 95 = .ok (.getfield 75, 3) := by decide +kernel
theorem d_R_apply_98 : decode b_R_apply 98 = .ok (.iconst 1, 1) := by decide +kernel
theorem d_R_apply_99 : decode b_R_apply 99 = .ok (.iadd, 1) := by decide +kernel
theorem d_R_apply_100 : decode b_R_apply 100 = .ok (.iastore, 1) := by decide +kernel
theorem d_R_apply_101 : decode b_R_apply 101 = .ok (.goto 222, 3) := by decide +kernel
theorem d_R_apply_104 : decode b_R_apply 104 = .ok (.aload_n 0, 1) := by decide +kernel
theorem d_R_apply_105 : decode b_R_apply 105 = .ok (.getfield 20, 3) := by decide +kernel
theorem d_R_apply_108 : decode b_R_apply 108 = .ok (.iload 4, 2) := by decide +kernel
theorem d_R_apply_110 : decode b_R_apply 110 = .ok (.lload_n 2, 1) := by decide +kernel
theorem d_R_apply_111 : decode b_R_apply 111 = .ok (.l2i, 1) := by decide +kernel
theorem d_R_apply_112 : decode b_R_apply 112 = .ok (.iastore, 1) := by decide +kernel
theorem d_R_apply_113 : decode b_R_apply 113 = .ok (.goto 210, 3) := by decide +kernel
theorem d_R_apply_116 : decode b_R_apply 116 = .ok (.aload_n 0, 1) := by decide +kernel
theorem d_R_apply_117 : decode b_R_apply 117 = .ok (.getfield 23, 3) := by decide +kernel
theorem d_R_apply_120 : decode b_R_apply 120 = .ok (.iload 4, 2) := by decide +kernel
theorem d_R_apply_122 : decode b_R_apply 122 = .ok (.aload_n 0, 1) := by decide +kernel
theorem d_R_apply_123 : decode b_R_apply 123 = .ok (.getfield 23, 3) := by decide +kernel
theorem d_R_apply_126 : decode b_R_apply 126 = .ok (.iload 4, 2) := by decide +kernel
theorem d_R_apply_128 : decode b_R_apply 128 = .ok (.laload, 1) := by decide +kernel
theorem d_R_apply_129 : decode b_R_apply 129 = .ok (.lconst 1, 1) := by decide +kernel
theorem d_R_apply_130 : decode b_R_apply 130 = .ok (.lload_n 2, 1) := by decide +kernel
theorem d_R_apply_131 : decode b_R_apply 131 = .ok (.l2i, 1) := by decide +kernel
theorem d_R_apply_132 : decode b_R_apply 132 = .ok (.lshl, 1) := by decide +kernel
theorem d_R_apply_133 : decode b_R_apply 133 = .ok (.lxor, 1) := by decide +kernel
theorem d_R_apply_134 : decode b_R_apply 134 = .ok (.lastore, 1) := by decide +kernel
theorem d_R_apply_135 : decode b_R_apply 135 = .ok (.goto 188, 3) := by decide +kernel
theorem d_R_apply_138 : decode b_R_apply 138 = .ok (.aload_n 0, 1) := by decide +kernel
theorem d_R_apply_139 : decode b_R_apply 139 = .ok (.getfield 29, 3) := by decide +kernel
theorem d_R_apply_142 : decode b_R_apply 142 = .ok (.bipush 8, 2) := by decide +kernel
theorem d_R_apply_144 : decode b_R_apply 144 = .ok (.iload 4, 2) := by decide +kernel
theorem d_R_apply_146 : decode b_R_apply 146 = .ok (.imul, 1) := by decide +kernel
theorem d_R_apply_147 : decode b_R_apply 147 = .ok (.aload_n 0, 1) := by decide +kernel
theorem d_R_apply_148 : decode b_R_apply 148 = .ok (.getfield 26, 3) := by decide +kernel
theorem d_R_apply_151 : decode b_R_apply 151 = .ok (.iload 4, 2) := by decide +kernel
theorem d_R_apply_153 : decode b_R_apply 153 = .ok (.iaload, 1) := by decide +kernel
theorem d_R_apply_154 : decode b_R_apply 154 = .ok (.iadd, 1) := by decide +kernel
theorem d_R_apply_155 : decode b_R_apply 155 = .ok (.lload_n 2, 1) := by decide +kernel
theorem d_R_apply_156 : decode b_R_apply 156 = .ok (.l2i, 1) := by decide +kernel
theorem d_R_apply_157 : decode b_R_apply 157 = .ok (.iastore, 1) := by decide +kernel
theorem d_R_apply_158 : decode b_R_apply 158 = .ok (.aload_n 0, 1) := by decide +kernel
theorem d_R_apply_159 : decode b_R_apply 159 = .ok (.getfield 26, 3) := by decide +kernel
theorem d_R_apply_162 : decode b_R_apply 162 = .ok (.iload 4, 2) := by decide +kernel
theorem d_R_apply_164 : decode b_R_apply 164 = .ok (.dup2, 1) := by decide +kernel
theorem d_R_apply_165 : decode b_R_apply 165 = .ok (.iaload, 1) := by decide +kernel
theorem d_R_apply_166 : decode b_R_apply 166 = .ok (.iconst 1, 1) := by decide +kernel
theorem d_R_apply_167 : decode b_R_apply 167 = .ok (.iadd, 1) := by decide +kernel
theorem d_R_apply_168 : decode b_R_apply 168 = .ok (.iastore, 1) := by decide +kernel
theorem d_R_apply_169 : decode b_R_apply 169 = .ok (.goto 154, 3) := by decide +kernel
theorem d_R_apply_172 : decode b_R_apply 172 = .ok (.aload_n 0, 1) := by decide +kernel
theorem d_R_apply_173 : decode b_R_apply 173 = .ok (.getfield 26, 3) := by decide +kernel
theorem d_R_apply_176 : decode b_R_apply 176 = .ok (.iload 4, 2) := by decide +kernel
theorem d_R_apply_178 : decode b_R_apply 178 = .ok (.dup2, 1) := by decide +kernel
theorem d_R_apply_179 : decode b_R_apply 179 = .ok (.iaload, 1) := by decide +kernel
theorem d_R_apply_180 : decode b_R_apply 180 = .ok (.iconst 1, 1) := by decide +kernel
theorem d_R_apply_181 : decode b_R_apply 181 = .ok (.isub, 1) := by decide +kernel
theorem d_R_apply_182 : decode b_R_apply 182 = .ok (.iastore, 1) := by decide +kernel
theorem d_R_apply_183 : decode b_R_apply 183 = .ok (.iconst 0, 1) := by decide +kernel
theorem d_R_apply_184 : decode b_R_apply 184 = .ok (.istore 5, 2) := by decide +kernel
theorem d_R_apply_186 : decode b_R_apply 186 = .ok (.iload 5, 2) := by decide +kernel
theorem d_R_apply_188 : decode b_R_apply 188 = .ok (.aload_n 0, 1) := by decide +kernel
theorem d_R_apply_189 : decode b_R_apply 189 = .ok (.getfield 26, 3) := by decide +kernel
theorem d_R_apply_192 : decode b_R_apply 192 = .ok (.iload 4, 2) := by decide +kernel
theorem d_R_apply_194 : decode b_R_apply 194 = .ok (.iaload, 1) := by decide +kernel
theorem d_R_apply_195 : decode b_R_apply 195 = .ok (.if_icmp .ge 37, 3) := by decide +kernel
theorem d_R_apply_198 : decode b_R_apply 198 = .ok (.aload_n 0, 1) := by decide +kernel
theorem d_R_apply_199 : decode b_R_apply 199 = .ok (.getfield 29, 3) := by decide +kernel
theorem d_R_apply_202 : decode b_R_apply 202 = .ok (.bipush 8, 2) := by decide +kernel
theorem d_R_apply_204 : decode b_R_apply 204 = .ok (.iload 4, 2) := by decide +kernel
theorem d_R_apply_206 : decode b_R_apply 206 = .ok (.imul, 1) := by decide +kernel
theorem d_R_apply_207 : decode b_R_apply 207 = .ok (.iload 5, 2) := by decide +kernel
theorem d_R_apply_209 : decode b_R_apply 209 = .ok (.iadd, 1) := by decide +kernel
theorem d_R_apply_210 : decode b_R_apply 210 = .ok (.aload_n 0, 1) := by decide +kernel
theorem d_R_apply_211 : decode b_R_apply 211 = .ok (.getfield 29, 3) := by decide +kernel
theorem d_R_apply_214 : decode b_R_apply 214 = .ok (.bipush 8, 2) := by decide +kernel
theorem d_R_apply_216 : decode b_R_apply 216 = .ok (.iload 4, 2) := by decide +kernel
theorem d_R_apply_218 : decode b_R_apply 218 = .ok (.imul, 1) := by decide +kernel
theorem d_R_apply_219 : decode b_R_apply 219 = .ok (.iload 5, 2) := by decide +kernel
theorem d_R_apply_221 : decode b_R_apply 221 = .ok (.iadd, 1) := by decide +kernel
theorem d_R_apply_222 : decode b_R_apply 222 = .ok (.iconst 1, 1) := by decide +kernel
theorem d_R_apply_223 : decode b_R_apply 223 = .ok (.iadd, 1) := by decide +kernel
theorem d_R_apply_224 : decode b_R_apply 224 = .ok (.iaload, 1) := by decide +kernel
theorem d_R_apply_225 : decode b_R_apply 225 = .ok (.iastore, 1) := by decide +kernel
theorem d_R_apply_226 : decode b_R_apply 226 = .ok (.iinc 5 1, 3) := by decide +kernel
theorem d_R_apply_229 : decode b_R_apply 229 = .ok (.goto (-43), 3) := by decide +kernel
theorem d_R_apply_232 : decode b_R_apply 232 = .ok (.goto 91, 3) := by decide +kernel
theorem d_R_apply_235 : decode b_R_apply 235 = .ok (.aload_n 0, 1) := by decide +kernel
theorem d_R_apply_236 : decode b_R_apply 236 = .ok (.getfield 36, 3) := by decide +kernel
theorem d_R_apply_239 : decode b_R_apply 239 = .ok (.iload 4, 2) := by decide +kernel
theorem d_R_apply_241 : decode b_R_apply 241 = .ok (.aload_n 0, 1) := by decide +kernel
theorem d_R_apply_242 : decode b_R_apply 242 = .ok (.getfield 32, 3) := by decide +kernel
theorem d_R_apply_245 : decode b_R_apply 245 = .ok (.iload 4, 2) := by decide +kernel
theorem d_R_apply_247 : decode b_R_apply 247 = .ok (.baload, 1) := by decide +kernel
theorem d_R_apply_248 : decode b_R_apply 248 = .ok (.ifCond .eq 15, 3) := by decide +kernel
theorem d_R_apply_251 : decode b_R_apply 251 = .ok (.aload_n 0, 1) := by decide +kernel
theorem d_R_apply_252 : decode b_R_apply 252 = .ok (.getfield 36, 3) := by decide +kernel
theorem d_R_apply_255 : decode b_R_apply 255 = .ok (.iload 4, 2) := by decide +kernel
theorem d_R_apply_257 : decode b_R_apply 257 = .ok (.laload, 1) := by decide +kernel
theorem d_R_apply_258 : decode b_R_apply 258 = .ok (.lload_n 2, 1) := by decide +kernel
theorem d_R_apply_259 : decode b_R_apply 259 = .ok (.ladd, 1) := by decide +kernel
theorem d_R_apply_260 : decode b_R_apply 260 = .ok (.goto 4, 3) := by decide +kernel
theorem d_R_apply_263 : decode b_R_apply 263 = .ok (.lload_n 2, 1) := by decide +kernel
theorem d_R_apply_264 : decode b_R_apply 264 = .ok (.lastore, 1) := by decide +kernel
theorem d_R_apply_265 : decode b_R_apply 265 = .ok (.aload_n 0, 1) := by decide +kernel
theorem d_R_apply_266 : decode b_R_apply 266 = .ok (.getfield 32, 3) := by decide +kernel
theorem d_R_apply_269 : decode b_R_apply 269 = .ok (.iload 4, 2) := by decide +kernel
theorem d_R_apply_271 : decode b_R_apply 271 = .ok (.iconst 1, 1) := by decide +kernel
theorem d_R_apply_272 : decode b_R_apply 272 = .ok (.bastore, 1) := by decide +kernel
theorem d_R_apply_273 : decode b_R_apply 273 = .ok (.goto 50, 3) := by decide +kernel
theorem d_R_apply_276 : decode b_R_apply 276 = .ok (.aload_n 0, 1) := by decide +kernel
theorem d_R_apply_277 : decode b_R_apply 277 = .ok (.getfield 32, 3) := by decide +kernel
theorem d_R_apply_280 : decode b_R_apply 280 = .ok (.iload 4, 2) := by decide +kernel
theorem d_R_apply_282 : decode b_R_apply 282 = .ok (.iconst 0, 1) := by decide +kernel
theorem d_R_apply_283 : decode b_R_apply 283 = .ok (.bastore, 1) := by decide +kernel
theorem d_R_apply_284 : decode b_R_apply 284 = .ok (.aload_n 0, 1) := by decide +kernel
theorem d_R_apply_285 : decode b_R_apply 285 = .ok (.getfield 36, 3) := by decide +kernel
theorem d_R_apply_288 : decode b_R_apply 288 = .ok (.iload 4, 2) := by decide +kernel
theorem d_R_apply_290 : decode b_R_apply 290 = .ok (.lconst 0, 1) := by decide +kernel
theorem d_R_apply_291 : decode b_R_apply 291 = .ok (.lastore, 1) := by decide +kernel
theorem d_R_apply_292 : decode b_R_apply 292 = .ok (.goto 31, 3) := by decide +kernel
theorem d_R_apply_295 : decode b_R_apply 295 = .ok (.aload_n 0, 1) := by decide +kernel
theorem d_R_apply_296 : decode b_R_apply 296 = .ok (.getfield 39, 3) := by decide +kernel
theorem d_R_apply_299 : decode b_R_apply 299 = .ok (.iload 4, 2) := by decide +kernel
theorem d_R_apply_301 : decode b_R_apply 301 = .ok (.aload_n 0, 1) := by decide +kernel
theorem d_R_apply_302 : decode b_R_apply 302 = .ok (.getfield 39, 3) := by decide +kernel
theorem d_R_apply_305 : decode b_R_apply 305 = .ok (.iload 4, 2) := by decide +kernel
theorem d_R_apply_307 : decode b_R_apply 307 = .ok (.laload, 1) := by decide +kernel
theorem d_R_apply_308 : decode b_R_apply 308 = .ok (.lload_n 2, 1) := by decide +kernel
theorem d_R_apply_309 : decode b_R_apply 309 = .ok (.ladd, 1) := by decide +kernel
theorem d_R_apply_310 : decode b_R_apply 310 = .ok (.lastore, 1) := by decide +kernel
theorem d_R_apply_311 : decode b_R_apply 311 = .ok (.goto 12, 3) := by decide +kernel
theorem d_R_apply_314 : decode b_R_apply 314 = .ok (.aload_n 0, 1) := by decide +kernel
theorem d_R_apply_315 : decode b_R_apply 315 = .ok (.getfield 42, 3) := by decide +kernel
theorem d_R_apply_318 : decode b_R_apply 318 = .ok (.iload 4, 2) := by decide +kernel
theorem d_R_apply_320 : decode b_R_apply 320 = .ok (.lload_n 2, 1) := by decide +kernel
theorem d_R_apply_321 : decode b_R_apply 321 = .ok (.l2i, 1) := by decide +kernel
theorem d_R_apply_322 : decode b_R_apply 322 = .ok (.iastore, 1) := by decide +kernel
theorem d_R_apply_323 : decode b_R_apply 323 = .ok (.return_, 1) := by decide +kernel
theorem d_R_chosen_0 : decode b_R_chosen 0 = .ok (.iload_n 1, 1) := by decide +kernel
theorem d_R_chosen_1 : decode b_R_chosen 1 = .ok (.iload_n 0, 1) := by decide +kernel
theorem d_R_chosen_2 : decode b_R_chosen 2 = .ok (.if_icmp .ne 7, 3) := by decide +kernel
theorem d_R_chosen_5 : decode b_R_chosen 5 = .ok (.iload_n 2, 1) := by decide +kernel
theorem d_R_chosen_6 : decode b_R_chosen 6 = .ok (.goto 4, 3) := by decide +kernel
theorem d_R_chosen_9 : decode b_R_chosen 9 = .ok (.iload_n 1, 1) := by decide +kernel
theorem d_R_chosen_10 : decode b_R_chosen 10 = .ok (.ireturn, 1) := by decide +kernel
theorem d_R_commits_0 : decode b_R_commits 0 = .ok (.aload_n 0, 1) := by decide +kernel
theorem d_R_commits_1 : decode b_R_commits 1 = .ok (.getfield 75, 3) := by decide +kernel
theorem d_R_commits_4 : decode b_R_commits 4 = .ok (.ireturn, 1) := by decide +kernel
theorem d_R_copy_0 : decode b_R_copy 0 = .ok (.aload_n 0, 1) := by decide +kernel
theorem d_R_copy_1 : decode b_R_copy 1 = .ok (.getfield 7, 3) := by decide +kernel
theorem d_R_copy_4 : decode b_R_copy 4 = .ok (.iload_n 2, 1) := by decide +kernel
theorem d_R_copy_5 : decode b_R_copy 5 = .ok (.aload_n 0, 1) := by decide +kernel
theorem d_R_copy_6 : decode b_R_copy 6 = .ok (.getfield 7, 3) := by decide +kernel
theorem d_R_copy_9 : decode b_R_copy 9 = .ok (.iload_n 1, 1) := by decide +kernel
theorem d_R_copy_10 : decode b_R_copy 10 = .ok (.laload, 1) := by decide +kernel
theorem d_R_copy_11 : decode b_R_copy 11 = .ok (.lastore, 1) := by decide +kernel
theorem d_R_copy_12 : decode b_R_copy 12 = .ok (.aload_n 0, 1) := by decide +kernel
theorem d_R_copy_13 : decode b_R_copy 13 = .ok (.getfield 13, 3) := by decide +kernel
theorem d_R_copy_16 : decode b_R_copy 16 = .ok (.iload_n 2, 1) := by decide +kernel
theorem d_R_copy_17 : decode b_R_copy 17 = .ok (.aload_n 0, 1) := by decide +kernel
theorem d_R_copy_18 : decode b_R_copy 18 = .ok (.getfield 13, 3) := by decide +kernel
theorem d_R_copy_21 : decode b_R_copy 21 = .ok (.iload_n 1, 1) := by decide +kernel
theorem d_R_copy_22 : decode b_R_copy 22 = .ok (.iaload, 1) := by decide +kernel
theorem d_R_copy_23 : decode b_R_copy 23 = .ok (.iastore, 1) := by decide +kernel
theorem d_R_copy_24 : decode b_R_copy 24 = .ok (.aload_n 0, 1) := by decide +kernel
theorem d_R_copy_25 : decode b_R_copy 25 = .ok (.getfield 17, 3) := by decide +kernel
theorem d_R_copy_28 : decode b_R_copy 28 = .ok (.iload_n 2, 1) := by decide +kernel
theorem d_R_copy_29 : decode b_R_copy 29 = .ok (.aload_n 0, 1) := by decide +kernel
theorem d_R_copy_30 : decode b_R_copy 30 = .ok (.getfield 17, 3) := by decide +kernel
theorem d_R_copy_33 : decode b_R_copy 33 = .ok (.iload_n 1, 1) := by decide +kernel
theorem d_R_copy_34 : decode b_R_copy 34 = .ok (.iaload, 1) := by decide +kernel
theorem d_R_copy_35 : decode b_R_copy 35 = .ok (.iastore, 1) := by decide +kernel
theorem d_R_copy_36 : decode b_R_copy 36 = .ok (.aload_n 0, 1) := by decide +kernel
theorem d_R_copy_37 : decode b_R_copy 37 = .ok (.getfield 20, 3) := by decide +kernel
theorem d_R_copy_40 : decode b_R_copy 40 = .ok (.iload_n 2, 1) := by decide +kernel
theorem d_R_copy_41 : decode b_R_copy 41 = .ok (.aload_n 0, 1) := by decide +kernel
theorem d_R_copy_42 : decode b_R_copy 42 = .ok (.getfield 20, 3) := by decide +kernel
theorem d_R_copy_45 : decode b_R_copy 45 = .ok (.iload_n 1, 1) := by decide +kernel
theorem d_R_copy_46 : decode b_R_copy 46 = .ok (.iaload, 1) := by decide +kernel
theorem d_R_copy_47 : decode b_R_copy 47 = .ok (.iastore, 1) := by decide +kernel
theorem d_R_copy_48 : decode b_R_copy 48 = .ok (.aload_n 0, 1) := by decide +kernel
theorem d_R_copy_49 : decode b_R_copy 49 = .ok (.getfield 23, 3) := by decide +kernel
theorem d_R_copy_52 : decode b_R_copy 52 = .ok (.iload_n 2, 1) := by decide +kernel
theorem d_R_copy_53 : decode b_R_copy 53 = .ok (.aload_n 0, 1) := by decide +kernel
theorem d_R_copy_54 : decode b_R_copy 54 = .ok (.getfield 23, 3) := by decide +kernel
theorem d_R_copy_57 : decode b_R_copy 57 = .ok (.iload_n 1, 1) := by decide +kernel
theorem d_R_copy_58 : decode b_R_copy 58 = .ok (.laload, 1) := by decide +kernel
theorem d_R_copy_59 : decode b_R_copy 59 = .ok (.lastore, 1) := by decide +kernel
theorem d_R_copy_60 : decode b_R_copy 60 = .ok (.aload_n 0, 1) := by decide +kernel
theorem d_R_copy_61 : decode b_R_copy 61 = .ok (.getfield 26, 3) := by decide +kernel
theorem d_R_copy_64 : decode b_R_copy 64 = .ok (.iload_n 2, 1) := by decide +kernel
theorem d_R_copy_65 : decode b_R_copy 65 = .ok (.aload_n 0, 1) := by decide +kernel
theorem d_R_copy_66 : decode b_R_copy 66 = .ok (.getfield 26, 3) := by decide +kernel
theorem d_R_copy_69 : decode b_R_copy 69 = .ok (.iload_n 1, 1) := by decide +kernel
theorem d_R_copy_70 : decode b_R_copy 70 = .ok (.iaload, 1) := by decide +kernel
theorem d_R_copy_71 : decode b_R_copy 71 = .ok (.iastore, 1) := by decide +kernel
theorem d_R_copy_72 : decode b_R_copy 72 = .ok (.iconst 0, 1) := by decide +kernel
theorem d_R_copy_73 : decode b_R_copy 73 = .ok (.istore_n 3, 1) := by decide +kernel
theorem d_R_copy_74 : decode b_R_copy 74 = .ok (.iload_n 3, 1) := by decide +kernel
theorem d_R_copy_75 : decode b_R_copy 75 = .ok (.bipush 8, 2) := by decide +kernel
theorem d_R_copy_77 : decode b_R_copy 77 = .ok (.if_icmp .ge 31, 3) := by decide +kernel
theorem d_R_copy_80 : decode b_R_copy 80 = .ok (.aload_n 0, 1) := by decide +kernel
theorem d_R_copy_81 : decode b_R_copy 81 = .ok (.getfield 29, 3) := by decide +kernel
theorem d_R_copy_84 : decode b_R_copy 84 = .ok (.bipush 8, 2) := by decide +kernel
theorem d_R_copy_86 : decode b_R_copy 86 = .ok (.iload_n 2, 1) := by decide +kernel
theorem d_R_copy_87 : decode b_R_copy 87 = .ok (.imul, 1) := by decide +kernel
theorem d_R_copy_88 : decode b_R_copy 88 = .ok (.iload_n 3, 1) := by decide +kernel
theorem d_R_copy_89 : decode b_R_copy 89 = .ok (.iadd, 1) := by decide +kernel
theorem d_R_copy_90 : decode b_R_copy 90 = .ok (.aload_n 0, 1) := by decide +kernel
theorem d_R_copy_91 : decode b_R_copy 91 = .ok (.getfield 29, 3) := by decide +kernel
theorem d_R_copy_94 : decode b_R_copy 94 = .ok (.bipush 8, 2) := by decide +kernel
theorem d_R_copy_96 : decode b_R_copy 96 = .ok (.iload_n 1, 1) := by decide +kernel
theorem d_R_copy_97 : decode b_R_copy 97 = .ok (.imul, 1) := by decide +kernel
theorem d_R_copy_98 : decode b_R_copy 98 = .ok (.iload_n 3, 1) := by decide +kernel
theorem d_R_copy_99 : decode b_R_copy 99 = .ok (.iadd, 1) := by decide +kernel
theorem d_R_copy_100 : decode b_R_copy 100 = .ok (.iaload, 1) := by decide +kernel
theorem d_R_copy_101 : decode b_R_copy 101 = .ok (.iastore, 1) := by decide +kernel
theorem d_R_copy_102 : decode b_R_copy 102 = .ok (.iinc 3 1, 3) := by decide +kernel
theorem d_R_copy_105 : decode b_R_copy 105 = .ok (.goto (-31), 3) := by decide +kernel
theorem d_R_copy_108 : decode b_R_copy 108 = .ok (.aload_n 0, 1) := by decide +kernel
theorem d_R_copy_109 : decode b_R_copy 109 = .ok (.getfield 32, 3) := by decide +kernel
theorem d_R_copy_112 : decode b_R_copy 112 = .ok (.iload_n 2, 1) := by decide +kernel
theorem d_R_copy_113 : decode b_R_copy 113 = .ok (.aload_n 0, 1) := by decide +kernel
theorem d_R_copy_114 : decode b_R_copy 114 = .ok (.getfield 32, 3) := by decide +kernel
theorem d_R_copy_117 : decode b_R_copy 117 = .ok (.iload_n 1, 1) := by decide +kernel
theorem d_R_copy_118 : decode b_R_copy 118 = .ok (.baload, 1) := by decide +kernel
theorem d_R_copy_119 : decode b_R_copy 119 = .ok (.bastore, 1) := by decide +kernel
theorem d_R_copy_120 : decode b_R_copy 120 = .ok (.aload_n 0, 1) := by decide +kernel
theorem d_R_copy_121 : decode b_R_copy 121 = .ok (.getfield 36, 3) := by decide +kernel
theorem d_R_copy_124 : decode b_R_copy 124 = .ok (.iload_n 2, 1) := by decide +kernel
theorem d_R_copy_125 : decode b_R_copy 125 = .ok (.aload_n 0, 1) := by decide +kernel
theorem d_R_copy_126 : decode b_R_copy 126 = .ok (.getfield 36, 3) := by decide +kernel
theorem d_R_copy_129 : decode b_R_copy 129 = .ok (.iload_n 1, 1) := by decide +kernel
theorem d_R_copy_130 : decode b_R_copy 130 = .ok (.laload, 1) := by decide +kernel
theorem d_R_copy_131 : decode b_R_copy 131 = .ok (.lastore, 1) := by decide +kernel
theorem d_R_copy_132 : decode b_R_copy 132 = .ok (.aload_n 0, 1) := by decide +kernel
theorem d_R_copy_133 : decode b_R_copy 133 = .ok (.getfield 39, 3) := by decide +kernel
theorem d_R_copy_136 : decode b_R_copy 136 = .ok (.iload_n 2, 1) := by decide +kernel
theorem d_R_copy_137 : decode b_R_copy 137 = .ok (.aload_n 0, 1) := by decide +kernel
theorem d_R_copy_138 : decode b_R_copy 138 = .ok (.getfield 39, 3) := by decide +kernel
theorem d_R_copy_141 : decode b_R_copy 141 = .ok (.iload_n 1, 1) := by decide +kernel
theorem d_R_copy_142 : decode b_R_copy 142 = .ok (.laload, 1) := by decide +kernel
theorem d_R_copy_143 : decode b_R_copy 143 = .ok (.lastore, 1) := by decide +kernel
theorem d_R_copy_144 : decode b_R_copy 144 = .ok (.aload_n 0, 1) := by decide +kernel
theorem d_R_copy_145 : decode b_R_copy 145 = .ok (.getfield 42, 3) := by decide +kernel
theorem d_R_copy_148 : decode b_R_copy 148 = .ok (.iload_n 2, 1) := by decide +kernel
theorem d_R_copy_149 : decode b_R_copy 149 = .ok (.aload_n 0, 1) := by decide +kernel
theorem d_R_copy_150 : decode b_R_copy 150 = .ok (.getfield 42, 3) := by decide +kernel
theorem d_R_copy_153 : decode b_R_copy 153 = .ok (.iload_n 1, 1) := by decide +kernel
theorem d_R_copy_154 : decode b_R_copy 154 = .ok (.iaload, 1) := by decide +kernel
theorem d_R_copy_155 : decode b_R_copy 155 = .ok (.iastore, 1) := by decide +kernel
theorem d_R_copy_156 : decode b_R_copy 156 = .ok (.return_, 1) := by decide +kernel
theorem d_R_event_0 : decode b_R_event 0 = .ok (.iload_n 1, 1) := by decide +kernel
theorem d_R_event_1 : decode b_R_event 1 = .ok (.ifCond .lt 20, 3) := by decide +kernel
theorem d_R_event_4 : decode b_R_event 4 = .ok (.iload_n 1, 1) := by decide +kernel
theorem d_R_event_5 : decode b_R_event 5 = .ok (.aload_n 0, 1) := by decide +kernel
theorem d_R_event_6 : decode b_R_event 6 = .ok (.getfield 143, 3) := by decide +kernel
theorem d_R_event_9 : decode b_R_event 9 = .ok (.if_icmp .ge 12, 3) := by decide +kernel
theorem d_R_event_12 : decode b_R_event 12 = .ok (.aload_n 0, 1) := by decide +kernel
theorem d_R_event_13 : decode b_R_event 13 = .ok (.getfield 63, 3) := by decide +kernel
theorem d_R_event_16 : decode b_R_event 16 = .ok (.iload_n 1, 1) := by decide +kernel
theorem d_R_event_17 : decode b_R_event 17 = .ok (.iaload, 1) := by decide +kernel
theorem d_R_event_18 : decode b_R_event 18 = .ok (.goto 4, 3) := by decide +kernel
theorem d_R_event_21 : decode b_R_event 21 = .ok (.iconst (-1), 1) := by decide +kernel
theorem d_R_event_22 : decode b_R_event 22 = .ok (.ireturn, 1) := by decide +kernel
theorem d_R_events_0 : decode b_R_events 0 = .ok (.aload_n 0, 1) := by decide +kernel
theorem d_R_events_1 : decode b_R_events 1 = .ok (.getfield 143, 3) := by decide +kernel
theorem d_R_events_4 : decode b_R_events 4 = .ok (.ireturn, 1) := by decide +kernel
theorem d_R_isAbove_0 : decode b_R_isAbove 0 = .ok (.aload_n 0, 1) := by decide +kernel
theorem d_R_isAbove_1 : decode b_R_isAbove 1 = .ok (.getfield 51, 3) := by decide +kernel
theorem d_R_isAbove_4 : decode b_R_isAbove 4 = .ok (.iload_n 2, 1) := by decide +kernel
theorem d_R_isAbove_5 : decode b_R_isAbove 5 = .ok (.laload, 1) := by decide +kernel
theorem d_R_isAbove_6 : decode b_R_isAbove 6 = .ok (.iload_n 1, 1) := by decide +kernel
theorem d_R_isAbove_7 : decode b_R_isAbove 7 = .ok (.lshr, 1) := by decide +kernel
theorem d_R_isAbove_8 : decode b_R_isAbove 8 = .ok (.lconst 1, 1) := by decide +kernel
theorem d_R_isAbove_9 : decode b_R_isAbove 9 = .ok (.land, 1) := by decide +kernel
theorem d_R_isAbove_10 : decode b_R_isAbove 10 = .ok (.lconst 1, 1) := by decide +kernel
theorem d_R_isAbove_11 : decode b_R_isAbove 11 = .ok (.lcmp, 1) := by decide +kernel
theorem d_R_isAbove_12 : decode b_R_isAbove 12 = .ok (.ifCond .ne 7, 3) := by decide +kernel
theorem d_R_isAbove_15 : decode b_R_isAbove 15 = .ok (.iconst 1, 1) := by decide +kernel
theorem d_R_isAbove_16 : decode b_R_isAbove 16 = .ok (.goto 4, 3) := by decide +kernel
theorem d_R_isAbove_19 : decode b_R_isAbove 19 = .ok (.iconst 0, 1) := by decide +kernel
theorem d_R_isAbove_20 : decode b_R_isAbove 20 = .ok (.ireturn, 1) := by decide +kernel
theorem d_R_isBranch_0 : decode b_R_isBranch 0 = .ok (.iload_n 0, 1) := by decide +kernel
theorem d_R_isBranch_1 : decode b_R_isBranch 1 = .ok (.ifCond .lt 12, 3) := by decide +kernel
theorem d_R_isBranch_4 : decode b_R_isBranch 4 = .ok (.iload_n 0, 1) := by decide +kernel
theorem d_R_isBranch_5 : decode b_R_isBranch 5 = .ok (.iconst 3, 1) := by decide +kernel
theorem d_R_isBranch_6 : decode b_R_isBranch 6 = .ok (.if_icmp .gt 7, 3) := by decide +kernel
theorem d_R_isBranch_9 : decode b_R_isBranch 9 = .ok (.iconst 1, 1) := by decide +kernel
theorem d_R_isBranch_10 : decode b_R_isBranch 10 = .ok (.goto 4, 3) := by decide +kernel
theorem d_R_isBranch_13 : decode b_R_isBranch 13 = .ok (.iconst 0, 1) := by decide +kernel
theorem d_R_isBranch_14 : decode b_R_isBranch 14 = .ok (.ireturn, 1) := by decide +kernel
theorem d_R_isCommit_0 : decode b_R_isCommit 0 = .ok (.iload_n 1, 1) := by decide +kernel
theorem d_R_isCommit_1 : decode b_R_isCommit 1 = .ok (.ifCond .lt 15, 3) := by decide +kernel
theorem d_R_isCommit_4 : decode b_R_isCommit 4 = .ok (.iload_n 1, 1) := by decide +kernel
theorem d_R_isCommit_5 : decode b_R_isCommit 5 = .ok (.aload_n 0, 1) := by decide +kernel
theorem d_R_isCommit_6 : decode b_R_isCommit 6 = .ok (.getfield 75, 3) := by decide +kernel
theorem d_R_isCommit_9 : decode b_R_isCommit 9 = .ok (.if_icmp .ge 7, 3) := by decide +kernel
theorem d_R_isCommit_12 : decode b_R_isCommit 12 = .ok (.iconst 1, 1) := by decide +kernel
theorem d_R_isCommit_13 : decode b_R_isCommit 13 = .ok (.goto 4, 3) := by decide +kernel
theorem d_R_isCommit_16 : decode b_R_isCommit 16 = .ok (.iconst 0, 1) := by decide +kernel
theorem d_R_isCommit_17 : decode b_R_isCommit 17 = .ok (.ireturn, 1) := by decide +kernel
theorem d_R_meetOf_0 : decode b_R_meetOf 0 = .ok (.aload_n 0, 1) := by decide +kernel
theorem d_R_meetOf_1 : decode b_R_meetOf 1 = .ok (.getfield 51, 3) := by decide +kernel
theorem d_R_meetOf_4 : decode b_R_meetOf 4 = .ok (.iload_n 1, 1) := by decide +kernel
theorem d_R_meetOf_5 : decode b_R_meetOf 5 = .ok (.laload, 1) := by decide +kernel
theorem d_R_meetOf_6 : decode b_R_meetOf 6 = .ok (.aload_n 0, 1) := by decide +kernel
theorem d_R_meetOf_7 : decode b_R_meetOf 7 = .ok (.getfield 51, 3) := by decide +kernel
theorem d_R_meetOf_10 : decode b_R_meetOf 10 = .ok (.iload_n 2, 1) := by decide +kernel
theorem d_R_meetOf_11 : decode b_R_meetOf 11 = .ok (.laload, 1) := by decide +kernel
theorem d_R_meetOf_12 : decode b_R_meetOf 12 = .ok (.land, 1) := by decide +kernel
theorem d_R_meetOf_13 : decode b_R_meetOf 13 = .ok (.lstore 4, 2) := by decide +kernel
theorem d_R_meetOf_15 : decode b_R_meetOf 15 = .ok (.iload_n 3, 1) := by decide +kernel
theorem d_R_meetOf_16 : decode b_R_meetOf 16 = .ok (.istore 6, 2) := by decide +kernel
theorem d_R_meetOf_18 : decode b_R_meetOf 18 = .ok (.iconst 0, 1) := by decide +kernel
theorem d_R_meetOf_19 : decode b_R_meetOf 19 = .ok (.istore 7, 2) := by decide +kernel
theorem d_R_meetOf_21 : decode b_R_meetOf 21 = .ok (.iload 7, 2) := by decide +kernel
theorem d_R_meetOf_23 : decode b_R_meetOf 23 = .ok (.aload_n 0, 1) := by decide +kernel
theorem d_R_meetOf_24 : decode b_R_meetOf 24 = .ok (.getfield 75, 3) := by decide +kernel
theorem d_R_meetOf_27 : decode b_R_meetOf 27 = .ok (.if_icmp .ge 106, 3) := by decide +kernel
theorem d_R_meetOf_30 : decode b_R_meetOf 30 = .ok (.lload 4, 2) := by decide +kernel
theorem d_R_meetOf_32 : decode b_R_meetOf 32 = .ok (.iload 7, 2) := by decide +kernel
theorem d_R_meetOf_34 : decode b_R_meetOf 34 = .ok (.lshr, 1) := by decide +kernel
theorem d_R_meetOf_35 : decode b_R_meetOf 35 = .ok (.lconst 1, 1) := by decide +kernel
theorem d_R_meetOf_36 : decode b_R_meetOf 36 = .ok (.land, 1) := by decide +kernel
theorem d_R_meetOf_37 : decode b_R_meetOf 37 = .ok (.lconst 1, 1) := by decide +kernel
theorem d_R_meetOf_38 : decode b_R_meetOf 38 = .ok (.lcmp, 1) := by decide +kernel
theorem d_R_meetOf_39 : decode b_R_meetOf 39 = .ok (.ifCond .ne 7, 3) := by decide +kernel
theorem d_R_meetOf_42 : decode b_R_meetOf 42 = .ok (.iconst 1, 1) := by decide +kernel
theorem d_R_meetOf_43 : decode b_R_meetOf 43 = .ok (.goto 4, 3) := by decide +kernel
theorem d_R_meetOf_46 : decode b_R_meetOf 46 = .ok (.iconst 0, 1) := by decide +kernel
theorem d_R_meetOf_47 : decode b_R_meetOf 47 = .ok (.istore 8, 2) := by decide +kernel
theorem d_R_meetOf_49 : decode b_R_meetOf 49 = .ok (.iload 7, 2) := by decide +kernel
theorem d_R_meetOf_51 : decode b_R_meetOf 51 = .ok (.iconst 1, 1) := by decide +kernel
theorem d_R_meetOf_52 : decode b_R_meetOf 52 = .ok (.iadd, 1) := by decide +kernel
theorem d_R_meetOf_53 : decode b_R_meetOf 53 = .ok (.istore 9, 2) := by decide +kernel
theorem d_R_meetOf_55 : decode b_R_meetOf 55 = .ok (.iload 9, 2) := by decide +kernel
theorem d_R_meetOf_57 : decode b_R_meetOf 57 = .ok (.aload_n 0, 1) := by decide +kernel
theorem d_R_meetOf_58 : decode b_R_meetOf 58 = .ok (.getfield 75, 3) := by decide +kernel
theorem d_R_meetOf_61 : decode b_R_meetOf 61 = .ok (.if_icmp .ge 50, 3) := by decide +kernel
theorem d_R_meetOf_64 : decode b_R_meetOf 64 = .ok (.iload 8, 2) := by decide +kernel
theorem d_R_meetOf_66 : decode b_R_meetOf 66 = .ok (.ifCond .eq 36, 3) := by decide +kernel
theorem d_R_meetOf_69 : decode b_R_meetOf 69 = .ok (.lload 4, 2) := by decide +kernel
theorem d_R_meetOf_71 : decode b_R_meetOf 71 = .ok (.iload 9, 2) := by decide +kernel
theorem d_R_meetOf_73 : decode b_R_meetOf 73 = .ok (.lshr, 1) := by decide +kernel
theorem d_R_meetOf_74 : decode b_R_meetOf 74 = .ok (.lconst 1, 1) := by decide +kernel
theorem d_R_meetOf_75 : decode b_R_meetOf 75 = .ok (.land, 1) := by decide +kernel
theorem d_R_meetOf_76 : decode b_R_meetOf 76 = .ok (.lconst 0, 1) := by decide +kernel
theorem d_R_meetOf_77 : decode b_R_meetOf 77 = .ok (.lcmp, 1) := by decide +kernel
theorem d_R_meetOf_78 : decode b_R_meetOf 78 = .ok (.ifCond .eq 20, 3) := by decide +kernel
theorem d_R_meetOf_81 : decode b_R_meetOf 81 = .ok (.aload_n 0, 1) := by decide +kernel
theorem d_R_meetOf_82 : decode b_R_meetOf 82 = .ok (.getfield 51, 3) := by decide +kernel
theorem d_R_meetOf_85 : decode b_R_meetOf 85 = .ok (.iload 9, 2) := by decide +kernel
theorem d_R_meetOf_87 : decode b_R_meetOf 87 = .ok (.laload, 1) := by decide +kernel
theorem d_R_meetOf_88 : decode b_R_meetOf 88 = .ok (.iload 7, 2) := by decide +kernel
theorem d_R_meetOf_90 : decode b_R_meetOf 90 = .ok (.lshr, 1) := by decide +kernel
theorem d_R_meetOf_91 : decode b_R_meetOf 91 = .ok (.lconst 1, 1) := by decide +kernel
theorem d_R_meetOf_92 : decode b_R_meetOf 92 = .ok (.land, 1) := by decide +kernel
theorem d_R_meetOf_93 : decode b_R_meetOf 93 = .ok (.lconst 0, 1) := by decide +kernel
theorem d_R_meetOf_94 : decode b_R_meetOf 94 = .ok (.lcmp, 1) := by decide +kernel
theorem d_R_meetOf_95 : decode b_R_meetOf 95 = .ok (.ifCond .ne 7, 3) := by decide +kernel
theorem d_R_meetOf_98 : decode b_R_meetOf 98 = .ok (.iconst 1, 1) := by decide +kernel
theorem d_R_meetOf_99 : decode b_R_meetOf 99 = .ok (.goto 4, 3) := by decide +kernel
theorem d_R_meetOf_102 : decode b_R_meetOf 102 = .ok (.iconst 0, 1) := by decide +kernel
theorem d_R_meetOf_103 : decode b_R_meetOf 103 = .ok (.istore 8, 2) := by decide +kernel
theorem d_R_meetOf_105 : decode b_R_meetOf 105 = .ok (.iinc 9 1, 3) := by decide +kernel
theorem d_R_meetOf_108 : decode b_R_meetOf 108 = .ok (.goto (-53), 3) := by decide +kernel
theorem d_R_meetOf_111 : decode b_R_meetOf 111 = .ok (.iload 8, 2) := by decide +kernel
theorem d_R_meetOf_113 : decode b_R_meetOf 113 = .ok (.ifCond .eq 14, 3) := by decide +kernel
theorem d_R_meetOf_116 : decode b_R_meetOf 116 = .ok (.iload 6, 2) := by decide +kernel
theorem d_R_meetOf_118 : decode b_R_meetOf 118 = .ok (.ifCond .ne 6, 3) := by decide +kernel
theorem d_R_meetOf_121 : decode b_R_meetOf 121 = .ok (.iload 7, 2) := by decide +kernel
theorem d_R_meetOf_123 : decode b_R_meetOf 123 = .ok (.ireturn, 1) := by decide +kernel
theorem d_R_meetOf_124 : decode b_R_meetOf 124 = .ok (.iinc 6 (-1), 3) := by decide +kernel
theorem d_R_meetOf_127 : decode b_R_meetOf 127 = .ok (.iinc 7 1, 3) := by decide +kernel
theorem d_R_meetOf_130 : decode b_R_meetOf 130 = .ok (.goto (-109), 3) := by decide +kernel
theorem d_R_meetOf_133 : decode b_R_meetOf 133 = .ok (.iconst (-1), 1) := by decide +kernel
theorem d_R_meetOf_134 : decode b_R_meetOf 134 = .ok (.ireturn, 1) := by decide +kernel
theorem d_R_mergeOptions_0 : decode b_R_mergeOptions 0 = .ok (.aload_n 0, 1) := by decide +kernel
theorem d_R_mergeOptions_1 : decode b_R_mergeOptions 1 = .ok (.getfield 32, 3) := by decide +kernel
theorem d_R_mergeOptions_4 : decode b_R_mergeOptions 4 = .ok (.iload_n 2, 1) := by decide +kernel
theorem d_R_mergeOptions_5 : decode b_R_mergeOptions 5 = .ok (.baload, 1) := by decide +kernel
theorem d_R_mergeOptions_6 : decode b_R_mergeOptions 6 = .ok (.ifCond .eq 16, 3) := by decide +kernel
theorem d_R_mergeOptions_9 : decode b_R_mergeOptions 9 = .ok (.aload_n 0, 1) := by decide +kernel
theorem d_R_mergeOptions_10 : decode b_R_mergeOptions 10 = .ok (.getfield 32, 3) := by decide +kernel
theorem d_R_mergeOptions_13 : decode b_R_mergeOptions 13 = .ok (.iload_n 3, 1) := by decide +kernel
theorem d_R_mergeOptions_14 : decode b_R_mergeOptions 14 = .ok (.baload, 1) := by decide +kernel
theorem d_R_mergeOptions_15 : decode b_R_mergeOptions 15 = .ok (.ifCond .eq 7, 3) := by decide +kernel
theorem d_R_mergeOptions_18 : decode b_R_mergeOptions 18 = .ok (.iconst 1, 1) := by decide +kernel
theorem d_R_mergeOptions_19 : decode b_R_mergeOptions 19 = .ok (.goto 4, 3) := by decide +kernel
theorem d_R_mergeOptions_22 : decode b_R_mergeOptions 22 = .ok (.iconst 0, 1) := by decide +kernel
theorem d_R_mergeOptions_23 : decode b_R_mergeOptions 23 = .ok (.istore 4, 2) := by decide +kernel
theorem d_R_mergeOptions_25 : decode b_R_mergeOptions 25 = .ok (.aload_n 0, 1) := by decide +kernel
theorem d_R_mergeOptions_26 : decode b_R_mergeOptions 26 = .ok (.getfield 32, 3) := by decide +kernel
theorem d_R_mergeOptions_29 : decode b_R_mergeOptions 29 = .ok (.bipush 65, 2) := by decide +kernel
theorem d_R_mergeOptions_31 : decode b_R_mergeOptions 31 = .ok (.iload 4, 2) := by decide +kernel
theorem d_R_mergeOptions_33 : decode b_R_mergeOptions 33 = .ok (.ifCond .ne 27, 3) := by decide +kernel
theorem d_R_mergeOptions_36 : decode b_R_mergeOptions 36 = .ok (.aload_n 0, 1) := by decide +kernel
theorem d_R_mergeOptions_37 : decode b_R_mergeOptions 37 = .ok (.getfield 32, 3) := by decide +kernel
theorem d_R_mergeOptions_40 : decode b_R_mergeOptions 40 = .ok (.iload_n 2, 1) := by decide +kernel
theorem d_R_mergeOptions_41 : decode b_R_mergeOptions 41 = .ok (.baload, 1) := by decide +kernel
theorem d_R_mergeOptions_42 : decode b_R_mergeOptions 42 = .ok (.aload_n 0, 1) := by decide +kernel
theorem d_R_mergeOptions_43 : decode b_R_mergeOptions 43 = .ok (.getfield 32, 3) := by decide +kernel
theorem d_R_mergeOptions_46 : decode b_R_mergeOptions 46 = .ok (.iload_n 3, 1) := by decide +kernel
theorem d_R_mergeOptions_47 : decode b_R_mergeOptions 47 = .ok (.baload, 1) := by decide +kernel
theorem d_R_mergeOptions_48 : decode b_R_mergeOptions 48 = .ok (.if_icmp .eq 16, 3) := by decide +kernel
theorem d_R_mergeOptions_51 : decode b_R_mergeOptions 51 = .ok (.aload_n 0, 1) := by decide +kernel
theorem d_R_mergeOptions_52 : decode b_R_mergeOptions 52 = .ok (.getfield 32, 3) := by decide +kernel
theorem d_R_mergeOptions_55 : decode b_R_mergeOptions 55 = .ok (.iload_n 1, 1) := by decide +kernel
theorem d_R_mergeOptions_56 : decode b_R_mergeOptions 56 = .ok (.baload, 1) := by decide +kernel
theorem d_R_mergeOptions_57 : decode b_R_mergeOptions 57 = .ok (.ifCond .ne 7, 3) := by decide +kernel
theorem d_R_mergeOptions_60 : decode b_R_mergeOptions 60 = .ok (.iconst 1, 1) := by decide +kernel
theorem d_R_mergeOptions_61 : decode b_R_mergeOptions 61 = .ok (.goto 4, 3) := by decide +kernel
theorem d_R_mergeOptions_64 : decode b_R_mergeOptions 64 = .ok (.iconst 0, 1) := by decide +kernel
theorem d_R_mergeOptions_65 : decode b_R_mergeOptions 65 = .ok (.bastore, 1) := by decide +kernel
theorem d_R_mergeOptions_66 : decode b_R_mergeOptions 66 = .ok (.aload_n 0, 1) := by decide +kernel
theorem d_R_mergeOptions_67 : decode b_R_mergeOptions 67 = .ok (.getfield 32, 3) := by decide +kernel
theorem d_R_mergeOptions_70 : decode b_R_mergeOptions 70 = .ok (.iload_n 2, 1) := by decide +kernel
theorem d_R_mergeOptions_71 : decode b_R_mergeOptions 71 = .ok (.baload, 1) := by decide +kernel
theorem d_R_mergeOptions_72 : decode b_R_mergeOptions 72 = .ok (.ifCond .eq 12, 3) := by decide +kernel
theorem d_R_mergeOptions_75 : decode b_R_mergeOptions 75 = .ok (.aload_n 0, 1) := by decide +kernel
theorem d_R_mergeOptions_76 : decode b_R_mergeOptions 76 = .ok (.getfield 36, 3) := by decide +kernel
theorem d_R_mergeOptions_79 : decode b_R_mergeOptions 79 = .ok (.iload_n 2, 1) := by decide +kernel
theorem d_R_mergeOptions_80 : decode b_R_mergeOptions 80 = .ok (.laload, 1) := by decide +kernel
theorem d_R_mergeOptions_81 : decode b_R_mergeOptions 81 = .ok (.goto 9, 3) := by decide +kernel
theorem d_R_mergeOptions_84 : decode b_R_mergeOptions 84 = .ok (.aload_n 0, 1) := by decide +kernel
theorem d_R_mergeOptions_85 : decode b_R_mergeOptions 85 = .ok (.getfield 36, 3) := by decide +kernel
theorem d_R_mergeOptions_88 : decode b_R_mergeOptions 88 = .ok (.iload_n 3, 1) := by decide +kernel
theorem d_R_mergeOptions_89 : decode b_R_mergeOptions 89 = .ok (.laload, 1) := by decide +kernel
theorem d_R_mergeOptions_90 : decode b_R_mergeOptions 90 = .ok (.lstore 5, 2) := by decide +kernel
theorem d_R_mergeOptions_92 : decode b_R_mergeOptions 92 = .ok (.aload_n 0, 1) := by decide +kernel
theorem d_R_mergeOptions_93 : decode b_R_mergeOptions 93 = .ok (.getfield 36, 3) := by decide +kernel
theorem d_R_mergeOptions_96 : decode b_R_mergeOptions 96 = .ok (.iload_n 2, 1) := by decide +kernel
theorem d_R_mergeOptions_97 : decode b_R_mergeOptions 97 = .ok (.laload, 1) := by decide +kernel
theorem d_R_mergeOptions_98 : decode b_R_mergeOptions 98 = .ok (.aload_n 0, 1) := by decide +kernel
theorem d_R_mergeOptions_99 : decode b_R_mergeOptions 99 = .ok (.getfield 36, 3) := by decide +kernel
theorem d_R_mergeOptions_102 : decode b_R_mergeOptions 102 = .ok (.iload_n 3, 1) := by decide +kernel
theorem d_R_mergeOptions_103 : decode b_R_mergeOptions 103 = .ok (.laload, 1) := by decide +kernel
theorem d_R_mergeOptions_104 : decode b_R_mergeOptions 104 = .ok (.ladd, 1) := by decide +kernel
theorem d_R_mergeOptions_105 : decode b_R_mergeOptions 105 = .ok (.aload_n 0, 1) := by decide +kernel
theorem d_R_mergeOptions_106 : decode b_R_mergeOptions 106 = .ok (.getfield 32, 3) := by decide +kernel
theorem d_R_mergeOptions_109 : decode b_R_mergeOptions 109 = .ok (.iload_n 1, 1) := by decide +kernel
theorem d_R_mergeOptions_110 : decode b_R_mergeOptions 110 = .ok (.baload, 1) := by decide +kernel
theorem d_R_mergeOptions_111 : decode b_R_mergeOptions 111 = .ok (.ifCond .eq 12, 3) := by decide +kernel
theorem d_R_mergeOptions_114 : decode b_R_mergeOptions 114 = .ok (.aload_n 0, 1) := by decide +kernel
theorem d_R_mergeOptions_115 : decode b_R_mergeOptions 115 = .ok (.getfield 36, 3) := by decide +kernel
theorem d_R_mergeOptions_118 : decode b_R_mergeOptions 118 = .ok (.iload_n 1, 1) := by decide +kernel
theorem d_R_mergeOptions_119 : decode b_R_mergeOptions 119 = .ok (.laload, 1) := by decide +kernel
theorem d_R_mergeOptions_120 : decode b_R_mergeOptions 120 = .ok (.goto 4, 3) := by decide +kernel
theorem d_R_mergeOptions_123 : decode b_R_mergeOptions 123 = .ok (.lconst 0, 1) := by decide +kernel
theorem d_R_mergeOptions_124 : decode b_R_mergeOptions 124 = .ok (.lsub, 1) := by decide +kernel
theorem d_R_mergeOptions_125 : decode b_R_mergeOptions 125 = .ok (.lstore 7, 2) := by decide +kernel
theorem d_R_mergeOptions_127 : decode b_R_mergeOptions 127 = .ok (.aload_n 0, 1) := by decide +kernel
theorem d_R_mergeOptions_128 : decode b_R_mergeOptions 128 = .ok (.getfield 36, 3) := by decide +kernel
theorem d_R_mergeOptions_131 : decode b_R_mergeOptions 131 = .ok (.bipush 65, 2) := by decide +kernel
theorem d_R_mergeOptions_133 : decode b_R_mergeOptions 133 = .ok (.aload_n 0, 1) := by decide +kernel
theorem d_R_mergeOptions_134 : decode b_R_mergeOptions 134 = .ok (.getfield 32, 3) := by decide +kernel
theorem d_R_mergeOptions_137 : decode b_R_mergeOptions 137 = .ok (.bipush 65, 2) := by decide +kernel
theorem d_R_mergeOptions_139 : decode b_R_mergeOptions 139 = .ok (.baload, 1) := by decide +kernel
theorem d_R_mergeOptions_140 : decode b_R_mergeOptions 140 = .ok (.ifCond .ne 7, 3) := by decide +kernel
theorem d_R_mergeOptions_143 : decode b_R_mergeOptions 143 = .ok (.lconst 0, 1) := by decide +kernel
theorem d_R_mergeOptions_144 : decode b_R_mergeOptions 144 = .ok (.goto 15, 3) := by decide +kernel
theorem d_R_mergeOptions_147 : decode b_R_mergeOptions 147 = .ok (.iload 4, 2) := by decide +kernel
theorem d_R_mergeOptions_149 : decode b_R_mergeOptions 149 = .ok (.ifCond .eq 8, 3) := by decide +kernel
theorem d_R_mergeOptions_152 : decode b_R_mergeOptions 152 = .ok (.lload 7, 2) := by decide +kernel
theorem d_R_mergeOptions_154 : decode b_R_mergeOptions 154 = .ok (.goto 5, 3) := by decide +kernel
theorem d_R_mergeOptions_157 : decode b_R_mergeOptions 157 = .ok (.lload 5, 2) := by decide +kernel
theorem d_R_mergeOptions_159 : decode b_R_mergeOptions 159 = .ok (.lastore, 1) := by decide +kernel
theorem d_R_mergeOptions_160 : decode b_R_mergeOptions 160 = .ok (.return_, 1) := by decide +kernel
theorem d_R_mix_0 : decode b_R_mix 0 = .ok (.lload_n 0, 1) := by decide +kernel
theorem d_R_mix_1 : decode b_R_mix 1 = .ok (.lstore 4, 2) := by decide +kernel
theorem d_R_mix_3 : decode b_R_mix 3 = .ok (.iconst 0, 1) := by decide +kernel
theorem d_R_mix_4 : decode b_R_mix 4 = .ok (.istore 6, 2) := by decide +kernel
theorem d_R_mix_6 : decode b_R_mix 6 = .ok (.iload 6, 2) := by decide +kernel
theorem d_R_mix_8 : decode b_R_mix 8 = .ok (.bipush 8, 2) := by decide +kernel
theorem d_R_mix_10 : decode b_R_mix 10 = .ok (.if_icmp .ge 29, 3) := by decide +kernel
theorem d_R_mix_13 : decode b_R_mix 13 = .ok (.lload 4, 2) := by decide +kernel
theorem d_R_mix_15 : decode b_R_mix 15 = .ok (.lload_n 2, 1) := by decide +kernel
theorem d_R_mix_16 : decode b_R_mix 16 = .ok (.bipush 8, 2) := by decide +kernel
theorem d_R_mix_18 : decode b_R_mix 18 = .ok (.iload 6, 2) := by decide +kernel
theorem d_R_mix_20 : decode b_R_mix 20 = .ok (.imul, 1) := by decide +kernel
theorem d_R_mix_21 : decode b_R_mix 21 = .ok (.lshr, 1) := by decide +kernel
theorem d_R_mix_22 : decode b_R_mix 22 = .ok (.ldc2_w 127, 3) := by decide +kernel
theorem d_R_mix_25 : decode b_R_mix 25 = .ok (.land, 1) := by decide +kernel
theorem d_R_mix_26 : decode b_R_mix 26 = .ok (.lxor, 1) := by decide +kernel
theorem d_R_mix_27 : decode b_R_mix 27 = .ok (.ldc2_w 129, 3) := by decide +kernel
theorem d_R_mix_30 : decode b_R_mix 30 = .ok (.lmul, 1) := by decide +kernel
theorem d_R_mix_31 : decode b_R_mix 31 = .ok (.lstore 4, 2) := by decide +kernel
theorem d_R_mix_33 : decode b_R_mix 33 = .ok (.iinc 6 1, 3) := by decide +kernel
theorem d_R_mix_36 : decode b_R_mix 36 = .ok (.goto (-30), 3) := by decide +kernel
theorem d_R_mix_39 : decode b_R_mix 39 = .ok (.lload 4, 2) := by decide +kernel
theorem d_R_mix_41 : decode b_R_mix 41 = .ok (.lreturn, 1) := by decide +kernel
theorem d_R_move_0 : decode b_R_move 0 = .ok (.aload_n 0, 1) := by decide +kernel
theorem d_R_move_1 : decode b_R_move 1 = .ok (.getfield 60, 3) := by decide +kernel
theorem d_R_move_4 : decode b_R_move 4 = .ok (.iload_n 1, 1) := by decide +kernel
theorem d_R_move_5 : decode b_R_move 5 = .ok (.baload, 1) := by decide +kernel
theorem d_R_move_6 : decode b_R_move 6 = .ok (.ifCond .eq 48, 3) := by decide +kernel
theorem d_R_move_9 : decode b_R_move 9 = .ok (.aload_n 0, 1) := by decide +kernel
theorem d_R_move_10 : decode b_R_move 10 = .ok (.getfield 57, 3) := by decide +kernel
theorem d_R_move_13 : decode b_R_move 13 = .ok (.iload_n 1, 1) := by decide +kernel
theorem d_R_move_14 : decode b_R_move 14 = .ok (.iaload, 1) := by decide +kernel
theorem d_R_move_15 : decode b_R_move 15 = .ok (.iload_n 2, 1) := by decide +kernel
theorem d_R_move_16 : decode b_R_move 16 = .ok (.if_icmp .eq 38, 3) := by decide +kernel
theorem d_R_move_19 : decode b_R_move 19 = .ok (.aload_n 0, 1) := by decide +kernel
theorem d_R_move_20 : decode b_R_move 20 = .ok (.getfield 143, 3) := by decide +kernel
theorem d_R_move_23 : decode b_R_move 23 = .ok (.bipush 100, 2) := by decide +kernel
theorem d_R_move_25 : decode b_R_move 25 = .ok (.if_icmp .ge 29, 3) := by decide +kernel
theorem d_R_move_28 : decode b_R_move 28 = .ok (.aload_n 0, 1) := by decide +kernel
theorem d_R_move_29 : decode b_R_move 29 = .ok (.getfield 63, 3) := by decide +kernel
theorem d_R_move_32 : decode b_R_move 32 = .ok (.aload_n 0, 1) := by decide +kernel
theorem d_R_move_33 : decode b_R_move 33 = .ok (.getfield 143, 3) := by decide +kernel
theorem d_R_move_36 : decode b_R_move 36 = .ok (.iload_n 1, 1) := by decide +kernel
theorem d_R_move_37 : decode b_R_move 37 = .ok (.iconst 4, 1) := by decide +kernel
theorem d_R_move_38 : decode b_R_move 38 = .ok (.iload_n 2, 1) := by decide +kernel
theorem d_R_move_39 : decode b_R_move 39 = .ok (.iconst 1, 1) := by decide +kernel
theorem d_R_move_40 : decode b_R_move 40 = .ok (.iadd, 1) := by decide +kernel
theorem d_R_move_41 : decode b_R_move 41 = .ok (.imul, 1) := by decide +kernel
theorem d_R_move_42 : decode b_R_move 42 = .ok (.iadd, 1) := by decide +kernel
theorem d_R_move_43 : decode b_R_move 43 = .ok (.iastore, 1) := by decide +kernel
theorem d_R_move_44 : decode b_R_move 44 = .ok (.aload_n 0, 1) := by decide +kernel
theorem d_R_move_45 : decode b_R_move 45 = .ok (.dup, 1) := by decide +kernel
theorem d_R_move_46 : decode b_R_move 46 = .ok (.getfield 143, 3) := by decide +kernel
theorem d_R_move_49 : decode b_R_move 49 = .ok (.iconst 1, 1) := by decide +kernel
theorem d_R_move_50 : decode b_R_move 50 = .ok (.iadd, 1) := by decide +kernel
theorem d_R_move_51 : decode b_R_move 51 = .ok (.putfield 143, 3) := by decide +kernel
theorem d_R_move_54 : decode b_R_move 54 = .ok (.aload_n 0, 1) := by decide +kernel
theorem d_R_move_55 : decode b_R_move 55 = .ok (.getfield 57, 3) := by decide +kernel
theorem d_R_move_58 : decode b_R_move 58 = .ok (.iload_n 1, 1) := by decide +kernel
theorem d_R_move_59 : decode b_R_move 59 = .ok (.iload_n 2, 1) := by decide +kernel
theorem d_R_move_60 : decode b_R_move 60 = .ok (.iastore, 1) := by decide +kernel
theorem d_R_move_61 : decode b_R_move 61 = .ok (.return_, 1) := by decide +kernel
theorem d_R_optionTorn_0 : decode b_R_optionTorn 0 = .ok (.aload_n 0, 1) := by decide +kernel
theorem d_R_optionTorn_1 : decode b_R_optionTorn 1 = .ok (.getfield 32, 3) := by decide +kernel
theorem d_R_optionTorn_4 : decode b_R_optionTorn 4 = .ok (.iload_n 2, 1) := by decide +kernel
theorem d_R_optionTorn_5 : decode b_R_optionTorn 5 = .ok (.baload, 1) := by decide +kernel
theorem d_R_optionTorn_6 : decode b_R_optionTorn 6 = .ok (.aload_n 0, 1) := by decide +kernel
theorem d_R_optionTorn_7 : decode b_R_optionTorn 7 = .ok (.getfield 32, 3) := by decide +kernel
theorem d_R_optionTorn_10 : decode b_R_optionTorn 10 = .ok (.iload_n 3, 1) := by decide +kernel
theorem d_R_optionTorn_11 : decode b_R_optionTorn 11 = .ok (.baload, 1) := by decide +kernel
theorem d_R_optionTorn_12 : decode b_R_optionTorn 12 = .ok (.if_icmp .ne 5, 3) := by decide +kernel
theorem d_R_optionTorn_15 : decode b_R_optionTorn 15 = .ok (.iconst 0, 1) := by decide +kernel
theorem d_R_optionTorn_16 : decode b_R_optionTorn 16 = .ok (.ireturn, 1) := by decide +kernel
theorem d_R_optionTorn_17 : decode b_R_optionTorn 17 = .ok (.aload_n 0, 1) := by decide +kernel
theorem d_R_optionTorn_18 : decode b_R_optionTorn 18 = .ok (.getfield 32, 3) := by decide +kernel
theorem d_R_optionTorn_21 : decode b_R_optionTorn 21 = .ok (.iload_n 1, 1) := by decide +kernel
theorem d_R_optionTorn_22 : decode b_R_optionTorn 22 = .ok (.baload, 1) := by decide +kernel
theorem d_R_optionTorn_23 : decode b_R_optionTorn 23 = .ok (.ifCond .eq 41, 3) := by decide +kernel
theorem d_R_optionTorn_26 : decode b_R_optionTorn 26 = .ok (.aload_n 0, 1) := by decide +kernel
theorem d_R_optionTorn_27 : decode b_R_optionTorn 27 = .ok (.getfield 36, 3) := by decide +kernel
theorem d_R_optionTorn_30 : decode b_R_optionTorn 30 = .ok (.iload_n 1, 1) := by decide +kernel
theorem d_R_optionTorn_31 : decode b_R_optionTorn 31 = .ok (.laload, 1) := by decide +kernel
theorem d_R_optionTorn_32 : decode b_R_optionTorn 32 = .ok (.aload_n 0, 1) := by decide +kernel
theorem d_R_optionTorn_33 : decode b_R_optionTorn 33 = .ok (.getfield 32, 3) := by decide +kernel
theorem d_R_optionTorn_36 : decode b_R_optionTorn 36 = .ok (.iload_n 2, 1) := by decide +kernel
theorem d_R_optionTorn_37 : decode b_R_optionTorn 37 = .ok (.baload, 1) := by decide +kernel
theorem d_R_optionTorn_38 : decode b_R_optionTorn 38 = .ok (.ifCond .eq 12, 3) := by decide +kernel
theorem d_R_optionTorn_41 : decode b_R_optionTorn 41 = .ok (.aload_n 0, 1) := by decide +kernel
theorem d_R_optionTorn_42 : decode b_R_optionTorn 42 = .ok (.getfield 36, 3) := by decide +kernel
theorem d_R_optionTorn_45 : decode b_R_optionTorn 45 = .ok (.iload_n 2, 1) := by decide +kernel
theorem d_R_optionTorn_46 : decode b_R_optionTorn 46 = .ok (.laload, 1) := by decide +kernel
theorem d_R_optionTorn_47 : decode b_R_optionTorn 47 = .ok (.goto 9, 3) := by decide +kernel
theorem d_R_optionTorn_50 : decode b_R_optionTorn 50 = .ok (.aload_n 0, 1) := by decide +kernel
theorem d_R_optionTorn_51 : decode b_R_optionTorn 51 = .ok (.getfield 36, 3) := by decide +kernel
theorem d_R_optionTorn_54 : decode b_R_optionTorn 54 = .ok (.iload_n 3, 1) := by decide +kernel
theorem d_R_optionTorn_55 : decode b_R_optionTorn 55 = .ok (.laload, 1) := by decide +kernel
theorem d_R_optionTorn_56 : decode b_R_optionTorn 56 = .ok (.lcmp, 1) := by decide +kernel
theorem d_R_optionTorn_57 : decode b_R_optionTorn 57 = .ok (.ifCond .eq 7, 3) := by decide +kernel
theorem d_R_optionTorn_60 : decode b_R_optionTorn 60 = .ok (.iconst 1, 1) := by decide +kernel
theorem d_R_optionTorn_61 : decode b_R_optionTorn 61 = .ok (.goto 4, 3) := by decide +kernel
theorem d_R_optionTorn_64 : decode b_R_optionTorn 64 = .ok (.iconst 0, 1) := by decide +kernel
theorem d_R_optionTorn_65 : decode b_R_optionTorn 65 = .ok (.ireturn, 1) := by decide +kernel
theorem d_R_parent_0 : decode b_R_parent 0 = .ok (.aload_n 0, 1) := by decide +kernel
theorem d_R_parent_1 : decode b_R_parent 1 = .ok (.iload_n 1, 1) := by decide +kernel
theorem d_R_parent_2 : decode b_R_parent 2 = .ok (.invokevirtual 168, 3) := by decide +kernel
theorem d_R_parent_5 : decode b_R_parent 5 = .ok (.ifCond .ne 7, 3) := by decide +kernel
theorem d_R_parent_8 : decode b_R_parent 8 = .ok (.iconst (-1), 1) := by decide +kernel
theorem d_R_parent_9 : decode b_R_parent 9 = .ok (.goto 31, 3) := by decide +kernel
theorem d_R_parent_12 : decode b_R_parent 12 = .ok (.iload_n 2, 1) := by decide +kernel
theorem d_R_parent_13 : decode b_R_parent 13 = .ok (.ifCond .ne 12, 3) := by decide +kernel
theorem d_R_parent_16 : decode b_R_parent 16 = .ok (.aload_n 0, 1) := by decide +kernel
theorem d_R_parent_17 : decode b_R_parent 17 = .ok (.getfield 45, 3) := by decide +kernel
theorem d_R_parent_20 : decode b_R_parent 20 = .ok (.iload_n 1, 1) := by decide +kernel
theorem d_R_parent_21 : decode b_R_parent 21 = .ok (.iaload, 1) := by decide +kernel
theorem d_R_parent_22 : decode b_R_parent 22 = .ok (.goto 18, 3) := by decide +kernel
theorem d_R_parent_25 : decode b_R_parent 25 = .ok (.iload_n 2, 1) := by decide +kernel
theorem d_R_parent_26 : decode b_R_parent 26 = .ok (.iconst 1, 1) := by decide +kernel
theorem d_R_parent_27 : decode b_R_parent 27 = .ok (.if_icmp .ne 12, 3) := by decide +kernel
theorem d_R_parent_30 : decode b_R_parent 30 = .ok (.aload_n 0, 1) := by decide +kernel
theorem d_R_parent_31 : decode b_R_parent 31 = .ok (.getfield 48, 3) := by decide +kernel
theorem d_R_parent_34 : decode b_R_parent 34 = .ok (.iload_n 1, 1) := by decide +kernel
theorem d_R_parent_35 : decode b_R_parent 35 = .ok (.iaload, 1) := by decide +kernel
theorem d_R_parent_36 : decode b_R_parent 36 = .ok (.goto 4, 3) := by decide +kernel
theorem d_R_parent_39 : decode b_R_parent 39 = .ok (.iconst (-1), 1) := by decide +kernel
theorem d_R_parent_40 : decode b_R_parent 40 = .ok (.istore_n 3, 1) := by decide +kernel
theorem d_R_parent_41 : decode b_R_parent 41 = .ok (.iload_n 3, 1) := by decide +kernel
theorem d_R_parent_42 : decode b_R_parent 42 = .ok (.ifCond .ge 7, 3) := by decide +kernel
theorem d_R_parent_45 : decode b_R_parent 45 = .ok (.iconst (-1), 1) := by decide +kernel
theorem d_R_parent_46 : decode b_R_parent 46 = .ok (.goto 4, 3) := by decide +kernel
theorem d_R_parent_49 : decode b_R_parent 49 = .ok (.iload_n 3, 1) := by decide +kernel
theorem d_R_parent_50 : decode b_R_parent 50 = .ok (.ireturn, 1) := by decide +kernel
