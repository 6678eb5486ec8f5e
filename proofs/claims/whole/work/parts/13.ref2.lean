theorem d_R_vertex_0 : decode b_R_vertex 0 = .ok (.iload_n 1, 1) := by decide +kernel
theorem d_R_vertex_1 : decode b_R_vertex 1 = .ok (.bipush (31), 2) := by decide +kernel
theorem d_R_vertex_3 : decode b_R_vertex 3 = .ok (.invokestatic 74, 3) := by decide +kernel
theorem d_R_vertex_6 : decode b_R_vertex 6 = .ok (.ifCond .eq (45), 3) := by decide +kernel
theorem d_R_vertex_9 : decode b_R_vertex 9 = .ok (.iload_n 2, 1) := by decide +kernel
theorem d_R_vertex_10 : decode b_R_vertex 10 = .ok (.bipush (31), 2) := by decide +kernel
theorem d_R_vertex_12 : decode b_R_vertex 12 = .ok (.invokestatic 74, 3) := by decide +kernel
theorem d_R_vertex_15 : decode b_R_vertex 15 = .ok (.ifCond .eq (36), 3) := by decide +kernel
theorem d_R_vertex_18 : decode b_R_vertex 18 = .ok (.iload_n 3, 1) := by decide +kernel
theorem d_R_vertex_19 : decode b_R_vertex 19 = .ok (.bipush (31), 2) := by decide +kernel
theorem d_R_vertex_21 : decode b_R_vertex 21 = .ok (.invokestatic 74, 3) := by decide +kernel
theorem d_R_vertex_24 : decode b_R_vertex 24 = .ok (.ifCond .eq (27), 3) := by decide +kernel
theorem d_R_vertex_27 : decode b_R_vertex 27 = .ok (.iload 4, 2) := by decide +kernel
theorem d_R_vertex_29 : decode b_R_vertex 29 = .ok (.bipush (127), 2) := by decide +kernel
theorem d_R_vertex_31 : decode b_R_vertex 31 = .ok (.invokestatic 74, 3) := by decide +kernel
theorem d_R_vertex_34 : decode b_R_vertex 34 = .ok (.ifCond .eq (17), 3) := by decide +kernel
theorem d_R_vertex_37 : decode b_R_vertex 37 = .ok (.iload 5, 2) := by decide +kernel
theorem d_R_vertex_39 : decode b_R_vertex 39 = .ok (.bipush (127), 2) := by decide +kernel
theorem d_R_vertex_41 : decode b_R_vertex 41 = .ok (.invokestatic 74, 3) := by decide +kernel
theorem d_R_vertex_44 : decode b_R_vertex 44 = .ok (.ifCond .eq (7), 3) := by decide +kernel
theorem d_R_vertex_47 : decode b_R_vertex 47 = .ok (.iconst 1, 1) := by decide +kernel
theorem d_R_vertex_48 : decode b_R_vertex 48 = .ok (.goto (4), 3) := by decide +kernel
theorem d_R_vertex_51 : decode b_R_vertex 51 = .ok (.iconst 0, 1) := by decide +kernel
theorem d_R_vertex_52 : decode b_R_vertex 52 = .ok (.istore 6, 2) := by decide +kernel
theorem d_R_vertex_54 : decode b_R_vertex 54 = .ok (.aload_n 0, 1) := by decide +kernel
theorem d_R_vertex_55 : decode b_R_vertex 55 = .ok (.iload 6, 2) := by decide +kernel
theorem d_R_vertex_57 : decode b_R_vertex 57 = .ok (.ifCond .ne (7), 3) := by decide +kernel
theorem d_R_vertex_60 : decode b_R_vertex 60 = .ok (.iconst 1, 1) := by decide +kernel
theorem d_R_vertex_61 : decode b_R_vertex 61 = .ok (.goto (17), 3) := by decide +kernel
theorem d_R_vertex_64 : decode b_R_vertex 64 = .ok (.aload_n 0, 1) := by decide +kernel
theorem d_R_vertex_65 : decode b_R_vertex 65 = .ok (.getfield 78, 3) := by decide +kernel
theorem d_R_vertex_68 : decode b_R_vertex 68 = .ok (.bipush (60), 2) := by decide +kernel
theorem d_R_vertex_70 : decode b_R_vertex 70 = .ok (.if_icmp .ne (7), 3) := by decide +kernel
theorem d_R_vertex_73 : decode b_R_vertex 73 = .ok (.iconst 2, 1) := by decide +kernel
theorem d_R_vertex_74 : decode b_R_vertex 74 = .ok (.goto (4), 3) := by decide +kernel
theorem d_R_vertex_77 : decode b_R_vertex 77 = .ok (.iconst 0, 1) := by decide +kernel
theorem d_R_vertex_78 : decode b_R_vertex 78 = .ok (.putfield 59, 3) := by decide +kernel
theorem d_R_vertex_81 : decode b_R_vertex 81 = .ok (.aload_n 0, 1) := by decide +kernel
theorem d_R_vertex_82 : decode b_R_vertex 82 = .ok (.getfield 59, 3) := by decide +kernel
theorem d_R_vertex_85 : decode b_R_vertex 85 = .ok (.ifCond .le (5), 3) := by decide +kernel
theorem d_R_vertex_88 : decode b_R_vertex 88 = .ok (.iconst 0, 1) := by decide +kernel
theorem d_R_vertex_89 : decode b_R_vertex 89 = .ok (.ireturn, 1) := by decide +kernel
theorem d_R_vertex_90 : decode b_R_vertex 90 = .ok (.aload_n 0, 1) := by decide +kernel
theorem d_R_vertex_91 : decode b_R_vertex 91 = .ok (.iconst 3, 1) := by decide +kernel
theorem d_R_vertex_92 : decode b_R_vertex 92 = .ok (.iload_n 1, 1) := by decide +kernel
theorem d_R_vertex_93 : decode b_R_vertex 93 = .ok (.iload_n 2, 1) := by decide +kernel
theorem d_R_vertex_94 : decode b_R_vertex 94 = .ok (.iload_n 3, 1) := by decide +kernel
theorem d_R_vertex_95 : decode b_R_vertex 95 = .ok (.invokevirtual 81, 3) := by decide +kernel
theorem d_R_vertex_98 : decode b_R_vertex 98 = .ok (.istore 7, 2) := by decide +kernel
theorem d_R_vertex_100 : decode b_R_vertex 100 = .ok (.aload_n 0, 1) := by decide +kernel
theorem d_R_vertex_101 : decode b_R_vertex 101 = .ok (.getfield 22, 3) := by decide +kernel
theorem d_R_vertex_104 : decode b_R_vertex 104 = .ok (.bipush (6), 2) := by decide +kernel
theorem d_R_vertex_106 : decode b_R_vertex 106 = .ok (.aload_n 0, 1) := by decide +kernel
theorem d_R_vertex_107 : decode b_R_vertex 107 = .ok (.getfield 78, 3) := by decide +kernel
theorem d_R_vertex_110 : decode b_R_vertex 110 = .ok (.imul, 1) := by decide +kernel
theorem d_R_vertex_111 : decode b_R_vertex 111 = .ok (.bipush (16), 2) := by decide +kernel
theorem d_R_vertex_113 : decode b_R_vertex 113 = .ok (.aload_n 0, 1) := by decide +kernel
theorem d_R_vertex_114 : decode b_R_vertex 114 = .ok (.iconst 0, 1) := by decide +kernel
theorem d_R_vertex_115 : decode b_R_vertex 115 = .ok (.iload_n 1, 1) := by decide +kernel
theorem d_R_vertex_116 : decode b_R_vertex 116 = .ok (.iload_n 2, 1) := by decide +kernel
theorem d_R_vertex_117 : decode b_R_vertex 117 = .ok (.iload_n 3, 1) := by decide +kernel
theorem d_R_vertex_118 : decode b_R_vertex 118 = .ok (.invokevirtual 81, 3) := by decide +kernel
theorem d_R_vertex_121 : decode b_R_vertex 121 = .ok (.iload 7, 2) := by decide +kernel
theorem d_R_vertex_123 : decode b_R_vertex 123 = .ok (.iadd, 1) := by decide +kernel
theorem d_R_vertex_124 : decode b_R_vertex 124 = .ok (.imul, 1) := by decide +kernel
theorem d_R_vertex_125 : decode b_R_vertex 125 = .ok (.iastore, 1) := by decide +kernel
theorem d_R_vertex_126 : decode b_R_vertex 126 = .ok (.aload_n 0, 1) := by decide +kernel
theorem d_R_vertex_127 : decode b_R_vertex 127 = .ok (.getfield 22, 3) := by decide +kernel
theorem d_R_vertex_130 : decode b_R_vertex 130 = .ok (.bipush (6), 2) := by decide +kernel
theorem d_R_vertex_132 : decode b_R_vertex 132 = .ok (.aload_n 0, 1) := by decide +kernel
theorem d_R_vertex_133 : decode b_R_vertex 133 = .ok (.getfield 78, 3) := by decide +kernel
theorem d_R_vertex_136 : decode b_R_vertex 136 = .ok (.imul, 1) := by decide +kernel
theorem d_R_vertex_137 : decode b_R_vertex 137 = .ok (.iconst 1, 1) := by decide +kernel
theorem d_R_vertex_138 : decode b_R_vertex 138 = .ok (.iadd, 1) := by decide +kernel
theorem d_R_vertex_139 : decode b_R_vertex 139 = .ok (.bipush (12), 2) := by decide +kernel
theorem d_R_vertex_141 : decode b_R_vertex 141 = .ok (.aload_n 0, 1) := by decide +kernel
theorem d_R_vertex_142 : decode b_R_vertex 142 = .ok (.iconst 1, 1) := by decide +kernel
theorem d_R_vertex_143 : decode b_R_vertex 143 = .ok (.iload_n 1, 1) := by decide +kernel
theorem d_R_vertex_144 : decode b_R_vertex 144 = .ok (.iload_n 2, 1) := by decide +kernel
theorem d_R_vertex_145 : decode b_R_vertex 145 = .ok (.iload_n 3, 1) := by decide +kernel
theorem d_R_vertex_146 : decode b_R_vertex 146 = .ok (.invokevirtual 81, 3) := by decide +kernel
theorem d_R_vertex_149 : decode b_R_vertex 149 = .ok (.iload 7, 2) := by decide +kernel
theorem d_R_vertex_151 : decode b_R_vertex 151 = .ok (.iadd, 1) := by decide +kernel
theorem d_R_vertex_152 : decode b_R_vertex 152 = .ok (.imul, 1) := by decide +kernel
theorem d_R_vertex_153 : decode b_R_vertex 153 = .ok (.iastore, 1) := by decide +kernel
theorem d_R_vertex_154 : decode b_R_vertex 154 = .ok (.aload_n 0, 1) := by decide +kernel
theorem d_R_vertex_155 : decode b_R_vertex 155 = .ok (.getfield 22, 3) := by decide +kernel
theorem d_R_vertex_158 : decode b_R_vertex 158 = .ok (.bipush (6), 2) := by decide +kernel
theorem d_R_vertex_160 : decode b_R_vertex 160 = .ok (.aload_n 0, 1) := by decide +kernel
theorem d_R_vertex_161 : decode b_R_vertex 161 = .ok (.getfield 78, 3) := by decide +kernel
theorem d_R_vertex_164 : decode b_R_vertex 164 = .ok (.imul, 1) := by decide +kernel
theorem d_R_vertex_165 : decode b_R_vertex 165 = .ok (.iconst 2, 1) := by decide +kernel
theorem d_R_vertex_166 : decode b_R_vertex 166 = .ok (.iadd, 1) := by decide +kernel
theorem d_R_vertex_167 : decode b_R_vertex 167 = .ok (.iload 7, 2) := by decide +kernel
theorem d_R_vertex_169 : decode b_R_vertex 169 = .ok (.iastore, 1) := by decide +kernel
theorem d_R_vertex_170 : decode b_R_vertex 170 = .ok (.aload_n 0, 1) := by decide +kernel
theorem d_R_vertex_171 : decode b_R_vertex 171 = .ok (.getfield 22, 3) := by decide +kernel
theorem d_R_vertex_174 : decode b_R_vertex 174 = .ok (.bipush (6), 2) := by decide +kernel
theorem d_R_vertex_176 : decode b_R_vertex 176 = .ok (.aload_n 0, 1) := by decide +kernel
theorem d_R_vertex_177 : decode b_R_vertex 177 = .ok (.getfield 78, 3) := by decide +kernel
theorem d_R_vertex_180 : decode b_R_vertex 180 = .ok (.imul, 1) := by decide +kernel
theorem d_R_vertex_181 : decode b_R_vertex 181 = .ok (.iconst 3, 1) := by decide +kernel
theorem d_R_vertex_182 : decode b_R_vertex 182 = .ok (.iadd, 1) := by decide +kernel
theorem d_R_vertex_183 : decode b_R_vertex 183 = .ok (.aload_n 0, 1) := by decide +kernel
theorem d_R_vertex_184 : decode b_R_vertex 184 = .ok (.iconst 2, 1) := by decide +kernel
theorem d_R_vertex_185 : decode b_R_vertex 185 = .ok (.iload_n 1, 1) := by decide +kernel
theorem d_R_vertex_186 : decode b_R_vertex 186 = .ok (.iload_n 2, 1) := by decide +kernel
theorem d_R_vertex_187 : decode b_R_vertex 187 = .ok (.iload_n 3, 1) := by decide +kernel
theorem d_R_vertex_188 : decode b_R_vertex 188 = .ok (.invokevirtual 81, 3) := by decide +kernel
theorem d_R_vertex_191 : decode b_R_vertex 191 = .ok (.iastore, 1) := by decide +kernel
theorem d_R_vertex_192 : decode b_R_vertex 192 = .ok (.aload_n 0, 1) := by decide +kernel
theorem d_R_vertex_193 : decode b_R_vertex 193 = .ok (.getfield 22, 3) := by decide +kernel
theorem d_R_vertex_196 : decode b_R_vertex 196 = .ok (.bipush (6), 2) := by decide +kernel
theorem d_R_vertex_198 : decode b_R_vertex 198 = .ok (.aload_n 0, 1) := by decide +kernel
theorem d_R_vertex_199 : decode b_R_vertex 199 = .ok (.getfield 78, 3) := by decide +kernel
theorem d_R_vertex_202 : decode b_R_vertex 202 = .ok (.imul, 1) := by decide +kernel
theorem d_R_vertex_203 : decode b_R_vertex 203 = .ok (.iconst 4, 1) := by decide +kernel
theorem d_R_vertex_204 : decode b_R_vertex 204 = .ok (.iadd, 1) := by decide +kernel
theorem d_R_vertex_205 : decode b_R_vertex 205 = .ok (.iload 4, 2) := by decide +kernel
theorem d_R_vertex_207 : decode b_R_vertex 207 = .ok (.iastore, 1) := by decide +kernel
theorem d_R_vertex_208 : decode b_R_vertex 208 = .ok (.aload_n 0, 1) := by decide +kernel
theorem d_R_vertex_209 : decode b_R_vertex 209 = .ok (.getfield 22, 3) := by decide +kernel
theorem d_R_vertex_212 : decode b_R_vertex 212 = .ok (.bipush (6), 2) := by decide +kernel
theorem d_R_vertex_214 : decode b_R_vertex 214 = .ok (.aload_n 0, 1) := by decide +kernel
theorem d_R_vertex_215 : decode b_R_vertex 215 = .ok (.getfield 78, 3) := by decide +kernel
theorem d_R_vertex_218 : decode b_R_vertex 218 = .ok (.imul, 1) := by decide +kernel
theorem d_R_vertex_219 : decode b_R_vertex 219 = .ok (.iconst 5, 1) := by decide +kernel
theorem d_R_vertex_220 : decode b_R_vertex 220 = .ok (.iadd, 1) := by decide +kernel
theorem d_R_vertex_221 : decode b_R_vertex 221 = .ok (.iload 5, 2) := by decide +kernel
theorem d_R_vertex_223 : decode b_R_vertex 223 = .ok (.iastore, 1) := by decide +kernel
theorem d_R_vertex_224 : decode b_R_vertex 224 = .ok (.aload_n 0, 1) := by decide +kernel
theorem d_R_vertex_225 : decode b_R_vertex 225 = .ok (.dup, 1) := by decide +kernel
theorem d_R_vertex_226 : decode b_R_vertex 226 = .ok (.getfield 78, 3) := by decide +kernel
theorem d_R_vertex_229 : decode b_R_vertex 229 = .ok (.iconst 1, 1) := by decide +kernel
theorem d_R_vertex_230 : decode b_R_vertex 230 = .ok (.iadd, 1) := by decide +kernel
theorem d_R_vertex_231 : decode b_R_vertex 231 = .ok (.putfield 78, 3) := by decide +kernel
theorem d_R_vertex_234 : decode b_R_vertex 234 = .ok (.aload_n 0, 1) := by decide +kernel
theorem d_R_vertex_235 : decode b_R_vertex 235 = .ok (.getfield 78, 3) := by decide +kernel
theorem d_R_vertex_238 : decode b_R_vertex 238 = .ok (.iconst 3, 1) := by decide +kernel
theorem d_R_vertex_239 : decode b_R_vertex 239 = .ok (.irem, 1) := by decide +kernel
theorem d_R_vertex_240 : decode b_R_vertex 240 = .ok (.ifCond .ne (54), 3) := by decide +kernel
theorem d_R_vertex_243 : decode b_R_vertex 243 = .ok (.aload_n 0, 1) := by decide +kernel
theorem d_R_vertex_244 : decode b_R_vertex 244 = .ok (.getfield 25, 3) := by decide +kernel
theorem d_R_vertex_247 : decode b_R_vertex 247 = .ok (.aload_n 0, 1) := by decide +kernel
theorem d_R_vertex_248 : decode b_R_vertex 248 = .ok (.getfield 78, 3) := by decide +kernel
theorem d_R_vertex_251 : decode b_R_vertex 251 = .ok (.iconst 3, 1) := by decide +kernel
theorem d_R_vertex_252 : decode b_R_vertex 252 = .ok (.idiv, 1) := by decide +kernel
theorem d_R_vertex_253 : decode b_R_vertex 253 = .ok (.iconst 1, 1) := by decide +kernel
theorem d_R_vertex_254 : decode b_R_vertex 254 = .ok (.isub, 1) := by decide +kernel
theorem d_R_vertex_255 : decode b_R_vertex 255 = .ok (.aload_n 0, 1) := by decide +kernel
theorem d_R_vertex_256 : decode b_R_vertex 256 = .ok (.getfield 85, 3) := by decide +kernel
theorem d_R_vertex_259 : decode b_R_vertex 259 = .ok (.iastore, 1) := by decide +kernel
theorem d_R_vertex_260 : decode b_R_vertex 260 = .ok (.aload_n 0, 1) := by decide +kernel
theorem d_R_vertex_261 : decode b_R_vertex 261 = .ok (.getfield 28, 3) := by decide +kernel
theorem d_R_vertex_264 : decode b_R_vertex 264 = .ok (.aload_n 0, 1) := by decide +kernel
theorem d_R_vertex_265 : decode b_R_vertex 265 = .ok (.getfield 78, 3) := by decide +kernel
theorem d_R_vertex_268 : decode b_R_vertex 268 = .ok (.iconst 3, 1) := by decide +kernel
theorem d_R_vertex_269 : decode b_R_vertex 269 = .ok (.idiv, 1) := by decide +kernel
theorem d_R_vertex_270 : decode b_R_vertex 270 = .ok (.iconst 1, 1) := by decide +kernel
theorem d_R_vertex_271 : decode b_R_vertex 271 = .ok (.isub, 1) := by decide +kernel
theorem d_R_vertex_272 : decode b_R_vertex 272 = .ok (.aload_n 0, 1) := by decide +kernel
theorem d_R_vertex_273 : decode b_R_vertex 273 = .ok (.getfield 88, 3) := by decide +kernel
theorem d_R_vertex_276 : decode b_R_vertex 276 = .ok (.iastore, 1) := by decide +kernel
theorem d_R_vertex_277 : decode b_R_vertex 277 = .ok (.aload_n 0, 1) := by decide +kernel
theorem d_R_vertex_278 : decode b_R_vertex 278 = .ok (.getfield 31, 3) := by decide +kernel
theorem d_R_vertex_281 : decode b_R_vertex 281 = .ok (.aload_n 0, 1) := by decide +kernel
theorem d_R_vertex_282 : decode b_R_vertex 282 = .ok (.getfield 78, 3) := by decide +kernel
theorem d_R_vertex_285 : decode b_R_vertex 285 = .ok (.iconst 3, 1) := by decide +kernel
theorem d_R_vertex_286 : decode b_R_vertex 286 = .ok (.idiv, 1) := by decide +kernel
theorem d_R_vertex_287 : decode b_R_vertex 287 = .ok (.iconst 1, 1) := by decide +kernel
theorem d_R_vertex_288 : decode b_R_vertex 288 = .ok (.isub, 1) := by decide +kernel
theorem d_R_vertex_289 : decode b_R_vertex 289 = .ok (.aload_n 0, 1) := by decide +kernel
theorem d_R_vertex_290 : decode b_R_vertex 290 = .ok (.getfield 91, 3) := by decide +kernel
theorem d_R_vertex_293 : decode b_R_vertex 293 = .ok (.iastore, 1) := by decide +kernel
theorem d_R_vertex_294 : decode b_R_vertex 294 = .ok (.aload_n 0, 1) := by decide +kernel
theorem d_R_vertex_295 : decode b_R_vertex 295 = .ok (.getfield 78, 3) := by decide +kernel
theorem d_R_vertex_298 : decode b_R_vertex 298 = .ok (.iconst 3, 1) := by decide +kernel
theorem d_R_vertex_299 : decode b_R_vertex 299 = .ok (.idiv, 1) := by decide +kernel
theorem d_R_vertex_300 : decode b_R_vertex 300 = .ok (.ireturn, 1) := by decide +kernel
theorem d_R_prepare_0 : decode b_R_prepare 0 = .ok (.iconst 0, 1) := by decide +kernel
theorem d_R_prepare_1 : decode b_R_prepare 1 = .ok (.istore_n 2, 1) := by decide +kernel
theorem d_R_prepare_2 : decode b_R_prepare 2 = .ok (.iload_n 2, 1) := by decide +kernel
theorem d_R_prepare_3 : decode b_R_prepare 3 = .ok (.iconst 3, 1) := by decide +kernel
theorem d_R_prepare_4 : decode b_R_prepare 4 = .ok (.if_icmp .ge (139), 3) := by decide +kernel
theorem d_R_prepare_7 : decode b_R_prepare 7 = .ok (.iload_n 2, 1) := by decide +kernel
theorem d_R_prepare_8 : decode b_R_prepare 8 = .ok (.iconst 1, 1) := by decide +kernel
theorem d_R_prepare_9 : decode b_R_prepare 9 = .ok (.iadd, 1) := by decide +kernel
theorem d_R_prepare_10 : decode b_R_prepare 10 = .ok (.iconst 3, 1) := by decide +kernel
theorem d_R_prepare_11 : decode b_R_prepare 11 = .ok (.irem, 1) := by decide +kernel
theorem d_R_prepare_12 : decode b_R_prepare 12 = .ok (.istore_n 3, 1) := by decide +kernel
theorem d_R_prepare_13 : decode b_R_prepare 13 = .ok (.iload_n 2, 1) := by decide +kernel
theorem d_R_prepare_14 : decode b_R_prepare 14 = .ok (.iconst 2, 1) := by decide +kernel
theorem d_R_prepare_15 : decode b_R_prepare 15 = .ok (.iadd, 1) := by decide +kernel
theorem d_R_prepare_16 : decode b_R_prepare 16 = .ok (.iconst 3, 1) := by decide +kernel
theorem d_R_prepare_17 : decode b_R_prepare 17 = .ok (.irem, 1) := by decide +kernel
theorem d_R_prepare_18 : decode b_R_prepare 18 = .ok (.istore 4, 2) := by decide +kernel
theorem d_R_prepare_20 : decode b_R_prepare 20 = .ok (.aload_n 0, 1) := by decide +kernel
theorem d_R_prepare_21 : decode b_R_prepare 21 = .ok (.getfield 34, 3) := by decide +kernel
theorem d_R_prepare_24 : decode b_R_prepare 24 = .ok (.iload_n 2, 1) := by decide +kernel
theorem d_R_prepare_25 : decode b_R_prepare 25 = .ok (.aload_n 0, 1) := by decide +kernel
theorem d_R_prepare_26 : decode b_R_prepare 26 = .ok (.iload_n 1, 1) := by decide +kernel
theorem d_R_prepare_27 : decode b_R_prepare 27 = .ok (.iload_n 3, 1) := by decide +kernel
theorem d_R_prepare_28 : decode b_R_prepare 28 = .ok (.iconst 1, 1) := by decide +kernel
theorem d_R_prepare_29 : decode b_R_prepare 29 = .ok (.invokevirtual 94, 3) := by decide +kernel
theorem d_R_prepare_32 : decode b_R_prepare 32 = .ok (.aload_n 0, 1) := by decide +kernel
theorem d_R_prepare_33 : decode b_R_prepare 33 = .ok (.iload_n 1, 1) := by decide +kernel
theorem d_R_prepare_34 : decode b_R_prepare 34 = .ok (.iload 4, 2) := by decide +kernel
theorem d_R_prepare_36 : decode b_R_prepare 36 = .ok (.iconst 2, 1) := by decide +kernel
theorem d_R_prepare_37 : decode b_R_prepare 37 = .ok (.invokevirtual 94, 3) := by decide +kernel
theorem d_R_prepare_40 : decode b_R_prepare 40 = .ok (.lmul, 1) := by decide +kernel
theorem d_R_prepare_41 : decode b_R_prepare 41 = .ok (.aload_n 0, 1) := by decide +kernel
theorem d_R_prepare_42 : decode b_R_prepare 42 = .ok (.iload_n 1, 1) := by decide +kernel
theorem d_R_prepare_43 : decode b_R_prepare 43 = .ok (.iload_n 3, 1) := by decide +kernel
theorem d_R_prepare_44 : decode b_R_prepare 44 = .ok (.iconst 2, 1) := by decide +kernel
theorem d_R_prepare_45 : decode b_R_prepare 45 = .ok (.invokevirtual 94, 3) := by decide +kernel
theorem d_R_prepare_48 : decode b_R_prepare 48 = .ok (.aload_n 0, 1) := by decide +kernel
theorem d_R_prepare_49 : decode b_R_prepare 49 = .ok (.iload_n 1, 1) := by decide +kernel
theorem d_R_prepare_50 : decode b_R_prepare 50 = .ok (.iload 4, 2) := by decide +kernel
theorem d_R_prepare_52 : decode b_R_prepare 52 = .ok (.iconst 1, 1) := by decide +kernel
theorem d_R_prepare_53 : decode b_R_prepare 53 = .ok (.invokevirtual 94, 3) := by decide +kernel
theorem d_R_prepare_56 : decode b_R_prepare 56 = .ok (.lmul, 1) := by decide +kernel
theorem d_R_prepare_57 : decode b_R_prepare 57 = .ok (.lsub, 1) := by decide +kernel
theorem d_R_prepare_58 : decode b_R_prepare 58 = .ok (.lastore, 1) := by decide +kernel
theorem d_R_prepare_59 : decode b_R_prepare 59 = .ok (.aload_n 0, 1) := by decide +kernel
theorem d_R_prepare_60 : decode b_R_prepare 60 = .ok (.getfield 38, 3) := by decide +kernel
theorem d_R_prepare_63 : decode b_R_prepare 63 = .ok (.iload_n 2, 1) := by decide +kernel
theorem d_R_prepare_64 : decode b_R_prepare 64 = .ok (.aload_n 0, 1) := by decide +kernel
theorem d_R_prepare_65 : decode b_R_prepare 65 = .ok (.iload_n 1, 1) := by decide +kernel
theorem d_R_prepare_66 : decode b_R_prepare 66 = .ok (.iload_n 3, 1) := by decide +kernel
theorem d_R_prepare_67 : decode b_R_prepare 67 = .ok (.iconst 2, 1) := by decide +kernel
theorem d_R_prepare_68 : decode b_R_prepare 68 = .ok (.invokevirtual 94, 3) := by decide +kernel
theorem d_R_prepare_71 : decode b_R_prepare 71 = .ok (.aload_n 0, 1) := by decide +kernel
theorem d_R_prepare_72 : decode b_R_prepare 72 = .ok (.iload_n 1, 1) := by decide +kernel
theorem d_R_prepare_73 : decode b_R_prepare 73 = .ok (.iload 4, 2) := by decide +kernel
theorem d_R_prepare_75 : decode b_R_prepare 75 = .ok (.iconst 0, 1) := by decide +kernel
theorem d_R_prepare_76 : decode b_R_prepare 76 = .ok (.invokevirtual 94, 3) := by decide +kernel
theorem d_R_prepare_79 : decode b_R_prepare 79 = .ok (.lmul, 1) := by decide +kernel
theorem d_R_prepare_80 : decode b_R_prepare 80 = .ok (.aload_n 0, 1) := by decide +kernel
theorem d_R_prepare_81 : decode b_R_prepare 81 = .ok (.iload_n 1, 1) := by decide +kernel
theorem d_R_prepare_82 : decode b_R_prepare 82 = .ok (.iload_n 3, 1) := by decide +kernel
theorem d_R_prepare_83 : decode b_R_prepare 83 = .ok (.iconst 0, 1) := by decide +kernel
theorem d_R_prepare_84 : decode b_R_prepare 84 = .ok (.invokevirtual 94, 3) := by decide +kernel
theorem d_R_prepare_87 : decode b_R_prepare 87 = .ok (.aload_n 0, 1) := by decide +kernel
theorem d_R_prepare_88 : decode b_R_prepare 88 = .ok (.iload_n 1, 1) := by decide +kernel
theorem d_R_prepare_89 : decode b_R_prepare 89 = .ok (.iload 4, 2) := by decide +kernel
theorem d_R_prepare_91 : decode b_R_prepare 91 = .ok (.iconst 2, 1) := by decide +kernel
theorem d_R_prepare_92 : decode b_R_prepare 92 = .ok (.invokevirtual 94, 3) := by decide +kernel
theorem d_R_prepare_95 : decode b_R_prepare 95 = .ok (.lmul, 1) := by decide +kernel
theorem d_R_prepare_96 : decode b_R_prepare 96 = .ok (.lsub, 1) := by decide +kernel
theorem d_R_prepare_97 : decode b_R_prepare 97 = .ok (.lastore, 1) := by decide +kernel
theorem d_R_prepare_98 : decode b_R_prepare 98 = .ok (.aload_n 0, 1) := by decide +kernel
theorem d_R_prepare_99 : decode b_R_prepare 99 = .ok (.getfield 41, 3) := by decide +kernel
theorem d_R_prepare_102 : decode b_R_prepare 102 = .ok (.iload_n 2, 1) := by decide +kernel
theorem d_R_prepare_103 : decode b_R_prepare 103 = .ok (.aload_n 0, 1) := by decide +kernel
theorem d_R_prepare_104 : decode b_R_prepare 104 = .ok (.iload_n 1, 1) := by decide +kernel
theorem d_R_prepare_105 : decode b_R_prepare 105 = .ok (.iload_n 3, 1) := by decide +kernel
theorem d_R_prepare_106 : decode b_R_prepare 106 = .ok (.iconst 0, 1) := by decide +kernel
theorem d_R_prepare_107 : decode b_R_prepare 107 = .ok (.invokevirtual 94, 3) := by decide +kernel
theorem d_R_prepare_110 : decode b_R_prepare 110 = .ok (.aload_n 0, 1) := by decide +kernel
theorem d_R_prepare_111 : decode b_R_prepare 111 = .ok (.iload_n 1, 1) := by decide +kernel
theorem d_R_prepare_112 : decode b_R_prepare 112 = .ok (.iload 4, 2) := by decide +kernel
theorem d_R_prepare_114 : decode b_R_prepare 114 = .ok (.iconst 1, 1) := by decide +kernel
theorem d_R_prepare_115 : decode b_R_prepare 115 = .ok (.invokevirtual 94, 3) := by decide +kernel
theorem d_R_prepare_118 : decode b_R_prepare 118 = .ok (.lmul, 1) := by decide +kernel
theorem d_R_prepare_119 : decode b_R_prepare 119 = .ok (.aload_n 0, 1) := by decide +kernel
theorem d_R_prepare_120 : decode b_R_prepare 120 = .ok (.iload_n 1, 1) := by decide +kernel
theorem d_R_prepare_121 : decode b_R_prepare 121 = .ok (.iload_n 3, 1) := by decide +kernel
theorem d_R_prepare_122 : decode b_R_prepare 122 = .ok (.iconst 1, 1) := by decide +kernel
theorem d_R_prepare_123 : decode b_R_prepare 123 = .ok (.invokevirtual 94, 3) := by decide +kernel
theorem d_R_prepare_126 : decode b_R_prepare 126 = .ok (.aload_n 0, 1) := by decide +kernel
theorem d_R_prepare_127 : decode b_R_prepare 127 = .ok (.iload_n 1, 1) := by decide +kernel
theorem d_R_prepare_128 : decode b_R_prepare 128 = .ok (.iload 4, 2) := by decide +kernel
theorem d_R_prepare_130 : decode b_R_prepare 130 = .ok (.iconst 0, 1) := by decide +kernel
theorem d_R_prepare_131 : decode b_R_prepare 131 = .ok (.invokevirtual 94, 3) := by decide +kernel
theorem d_R_prepare_134 : decode b_R_prepare 134 = .ok (.lmul, 1) := by decide +kernel
theorem d_R_prepare_135 : decode b_R_prepare 135 = .ok (.lsub, 1) := by decide +kernel
theorem d_R_prepare_136 : decode b_R_prepare 136 = .ok (.lastore, 1) := by decide +kernel
theorem d_R_prepare_137 : decode b_R_prepare 137 = .ok (.iinc 2 (1), 3) := by decide +kernel
theorem d_R_prepare_140 : decode b_R_prepare 140 = .ok (.goto (-138), 3) := by decide +kernel
theorem d_R_prepare_143 : decode b_R_prepare 143 = .ok (.aload_n 0, 1) := by decide +kernel
theorem d_R_prepare_144 : decode b_R_prepare 144 = .ok (.aload_n 0, 1) := by decide +kernel
theorem d_R_prepare_145 : decode b_R_prepare 145 = .ok (.iload_n 1, 1) := by decide +kernel
theorem d_R_prepare_146 : decode b_R_prepare 146 = .ok (.iconst 0, 1) := by decide +kernel
theorem d_R_prepare_147 : decode b_R_prepare 147 = .ok (.iconst 0, 1) := by decide +kernel
theorem d_R_prepare_148 : decode b_R_prepare 148 = .ok (.invokevirtual 94, 3) := by decide +kernel
theorem d_R_prepare_151 : decode b_R_prepare 151 = .ok (.aload_n 0, 1) := by decide +kernel
theorem d_R_prepare_152 : decode b_R_prepare 152 = .ok (.getfield 34, 3) := by decide +kernel
theorem d_R_prepare_155 : decode b_R_prepare 155 = .ok (.iconst 0, 1) := by decide +kernel
theorem d_R_prepare_156 : decode b_R_prepare 156 = .ok (.laload, 1) := by decide +kernel
theorem d_R_prepare_157 : decode b_R_prepare 157 = .ok (.lmul, 1) := by decide +kernel
theorem d_R_prepare_158 : decode b_R_prepare 158 = .ok (.aload_n 0, 1) := by decide +kernel
theorem d_R_prepare_159 : decode b_R_prepare 159 = .ok (.iload_n 1, 1) := by decide +kernel
theorem d_R_prepare_160 : decode b_R_prepare 160 = .ok (.iconst 0, 1) := by decide +kernel
theorem d_R_prepare_161 : decode b_R_prepare 161 = .ok (.iconst 1, 1) := by decide +kernel
theorem d_R_prepare_162 : decode b_R_prepare 162 = .ok (.invokevirtual 94, 3) := by decide +kernel
theorem d_R_prepare_165 : decode b_R_prepare 165 = .ok (.aload_n 0, 1) := by decide +kernel
theorem d_R_prepare_166 : decode b_R_prepare 166 = .ok (.getfield 38, 3) := by decide +kernel
theorem d_R_prepare_169 : decode b_R_prepare 169 = .ok (.iconst 0, 1) := by decide +kernel
theorem d_R_prepare_170 : decode b_R_prepare 170 = .ok (.laload, 1) := by decide +kernel
theorem d_R_prepare_171 : decode b_R_prepare 171 = .ok (.lmul, 1) := by decide +kernel
theorem d_R_prepare_172 : decode b_R_prepare 172 = .ok (.ladd, 1) := by decide +kernel
theorem d_R_prepare_173 : decode b_R_prepare 173 = .ok (.aload_n 0, 1) := by decide +kernel
theorem d_R_prepare_174 : decode b_R_prepare 174 = .ok (.iload_n 1, 1) := by decide +kernel
theorem d_R_prepare_175 : decode b_R_prepare 175 = .ok (.iconst 0, 1) := by decide +kernel
theorem d_R_prepare_176 : decode b_R_prepare 176 = .ok (.iconst 2, 1) := by decide +kernel
theorem d_R_prepare_177 : decode b_R_prepare 177 = .ok (.invokevirtual 94, 3) := by decide +kernel
theorem d_R_prepare_180 : decode b_R_prepare 180 = .ok (.aload_n 0, 1) := by decide +kernel
theorem d_R_prepare_181 : decode b_R_prepare 181 = .ok (.getfield 41, 3) := by decide +kernel
theorem d_R_prepare_184 : decode b_R_prepare 184 = .ok (.iconst 0, 1) := by decide +kernel
theorem d_R_prepare_185 : decode b_R_prepare 185 = .ok (.laload, 1) := by decide +kernel
theorem d_R_prepare_186 : decode b_R_prepare 186 = .ok (.lmul, 1) := by decide +kernel
theorem d_R_prepare_187 : decode b_R_prepare 187 = .ok (.ladd, 1) := by decide +kernel
theorem d_R_prepare_188 : decode b_R_prepare 188 = .ok (.putfield 98, 3) := by decide +kernel
theorem d_R_prepare_191 : decode b_R_prepare 191 = .ok (.return_, 1) := by decide +kernel
theorem d_R_covers_0 : decode b_R_covers 0 = .ok (.aload_n 0, 1) := by decide +kernel
theorem d_R_covers_1 : decode b_R_covers 1 = .ok (.getfield 98, 3) := by decide +kernel
theorem d_R_covers_4 : decode b_R_covers 4 = .ok (.lconst 0, 1) := by decide +kernel
theorem d_R_covers_5 : decode b_R_covers 5 = .ok (.lcmp, 1) := by decide +kernel
theorem d_R_covers_6 : decode b_R_covers 6 = .ok (.ifCond .eq (37), 3) := by decide +kernel
theorem d_R_covers_9 : decode b_R_covers 9 = .ok (.aload_n 0, 1) := by decide +kernel
theorem d_R_covers_10 : decode b_R_covers 10 = .ok (.getfield 31, 3) := by decide +kernel
theorem d_R_covers_13 : decode b_R_covers 13 = .ok (.iload_n 1, 1) := by decide +kernel
theorem d_R_covers_14 : decode b_R_covers 14 = .ok (.iaload, 1) := by decide +kernel
theorem d_R_covers_15 : decode b_R_covers 15 = .ok (.iconst 1, 1) := by decide +kernel
theorem d_R_covers_16 : decode b_R_covers 16 = .ok (.if_icmp .ne (10), 3) := by decide +kernel
theorem d_R_covers_19 : decode b_R_covers 19 = .ok (.lload 4, 2) := by decide +kernel
theorem d_R_covers_21 : decode b_R_covers 21 = .ok (.lconst 0, 1) := by decide +kernel
theorem d_R_covers_22 : decode b_R_covers 22 = .ok (.lcmp, 1) := by decide +kernel
theorem d_R_covers_23 : decode b_R_covers 23 = .ok (.ifCond .lt (20), 3) := by decide +kernel
theorem d_R_covers_26 : decode b_R_covers 26 = .ok (.aload_n 0, 1) := by decide +kernel
theorem d_R_covers_27 : decode b_R_covers 27 = .ok (.getfield 31, 3) := by decide +kernel
theorem d_R_covers_30 : decode b_R_covers 30 = .ok (.iload_n 1, 1) := by decide +kernel
theorem d_R_covers_31 : decode b_R_covers 31 = .ok (.iaload, 1) := by decide +kernel
theorem d_R_covers_32 : decode b_R_covers 32 = .ok (.iconst 2, 1) := by decide +kernel
theorem d_R_covers_33 : decode b_R_covers 33 = .ok (.if_icmp .ne (12), 3) := by decide +kernel
theorem d_R_covers_36 : decode b_R_covers 36 = .ok (.lload 4, 2) := by decide +kernel
theorem d_R_covers_38 : decode b_R_covers 38 = .ok (.lconst 0, 1) := by decide +kernel
theorem d_R_covers_39 : decode b_R_covers 39 = .ok (.lcmp, 1) := by decide +kernel
theorem d_R_covers_40 : decode b_R_covers 40 = .ok (.ifCond .le (5), 3) := by decide +kernel
theorem d_R_covers_43 : decode b_R_covers 43 = .ok (.iconst 0, 1) := by decide +kernel
theorem d_R_covers_44 : decode b_R_covers 44 = .ok (.ireturn, 1) := by decide +kernel
theorem d_R_covers_45 : decode b_R_covers 45 = .ok (.iconst 1, 1) := by decide +kernel
theorem d_R_covers_46 : decode b_R_covers 46 = .ok (.istore 6, 2) := by decide +kernel
theorem d_R_covers_48 : decode b_R_covers 48 = .ok (.iconst 0, 1) := by decide +kernel
theorem d_R_covers_49 : decode b_R_covers 49 = .ok (.istore 7, 2) := by decide +kernel
theorem d_R_covers_51 : decode b_R_covers 51 = .ok (.iload 7, 2) := by decide +kernel
theorem d_R_covers_53 : decode b_R_covers 53 = .ok (.iconst 3, 1) := by decide +kernel
theorem d_R_covers_54 : decode b_R_covers 54 = .ok (.if_icmp .ge (127), 3) := by decide +kernel
theorem d_R_covers_57 : decode b_R_covers 57 = .ok (.lload 4, 2) := by decide +kernel
theorem d_R_covers_59 : decode b_R_covers 59 = .ok (.aload_n 0, 1) := by decide +kernel
theorem d_R_covers_60 : decode b_R_covers 60 = .ok (.getfield 34, 3) := by decide +kernel
theorem d_R_covers_63 : decode b_R_covers 63 = .ok (.iload 7, 2) := by decide +kernel
theorem d_R_covers_65 : decode b_R_covers 65 = .ok (.laload, 1) := by decide +kernel
theorem d_R_covers_66 : decode b_R_covers 66 = .ok (.lmul, 1) := by decide +kernel
theorem d_R_covers_67 : decode b_R_covers 67 = .ok (.lstore 8, 2) := by decide +kernel
theorem d_R_covers_69 : decode b_R_covers 69 = .ok (.lload 4, 2) := by decide +kernel
theorem d_R_covers_71 : decode b_R_covers 71 = .ok (.aload_n 0, 1) := by decide +kernel
theorem d_R_covers_72 : decode b_R_covers 72 = .ok (.getfield 38, 3) := by decide +kernel
theorem d_R_covers_75 : decode b_R_covers 75 = .ok (.iload 7, 2) := by decide +kernel
theorem d_R_covers_77 : decode b_R_covers 77 = .ok (.laload, 1) := by decide +kernel
theorem d_R_covers_78 : decode b_R_covers 78 = .ok (.lmul, 1) := by decide +kernel
theorem d_R_covers_79 : decode b_R_covers 79 = .ok (.lstore 10, 2) := by decide +kernel
theorem d_R_covers_81 : decode b_R_covers 81 = .ok (.aload_n 0, 1) := by decide +kernel
theorem d_R_covers_82 : decode b_R_covers 82 = .ok (.getfield 44, 3) := by decide +kernel
theorem d_R_covers_85 : decode b_R_covers 85 = .ok (.iload 7, 2) := by decide +kernel
theorem d_R_covers_87 : decode b_R_covers 87 = .ok (.lload 8, 2) := by decide +kernel
theorem d_R_covers_89 : decode b_R_covers 89 = .ok (.iconst 2, 1) := by decide +kernel
theorem d_R_covers_90 : decode b_R_covers 90 = .ok (.iload_n 2, 1) := by decide +kernel
theorem d_R_covers_91 : decode b_R_covers 91 = .ok (.imul, 1) := by decide +kernel
theorem d_R_covers_92 : decode b_R_covers 92 = .ok (.iconst 1, 1) := by decide +kernel
theorem d_R_covers_93 : decode b_R_covers 93 = .ok (.iadd, 1) := by decide +kernel
theorem d_R_covers_94 : decode b_R_covers 94 = .ok (.i2l, 1) := by decide +kernel
theorem d_R_covers_95 : decode b_R_covers 95 = .ok (.lmul, 1) := by decide +kernel
theorem d_R_covers_96 : decode b_R_covers 96 = .ok (.lload 10, 2) := by decide +kernel
theorem d_R_covers_98 : decode b_R_covers 98 = .ok (.iconst 2, 1) := by decide +kernel
theorem d_R_covers_99 : decode b_R_covers 99 = .ok (.iload_n 3, 1) := by decide +kernel
theorem d_R_covers_100 : decode b_R_covers 100 = .ok (.imul, 1) := by decide +kernel
theorem d_R_covers_101 : decode b_R_covers 101 = .ok (.iconst 1, 1) := by decide +kernel
theorem d_R_covers_102 : decode b_R_covers 102 = .ok (.iadd, 1) := by decide +kernel
theorem d_R_covers_103 : decode b_R_covers 103 = .ok (.i2l, 1) := by decide +kernel
theorem d_R_covers_104 : decode b_R_covers 104 = .ok (.lmul, 1) := by decide +kernel
theorem d_R_covers_105 : decode b_R_covers 105 = .ok (.ladd, 1) := by decide +kernel
theorem d_R_covers_106 : decode b_R_covers 106 = .ok (.lload 4, 2) := by decide +kernel
theorem d_R_covers_108 : decode b_R_covers 108 = .ok (.aload_n 0, 1) := by decide +kernel
theorem d_R_covers_109 : decode b_R_covers 109 = .ok (.getfield 41, 3) := by decide +kernel
theorem d_R_covers_112 : decode b_R_covers 112 = .ok (.iload 7, 2) := by decide +kernel
theorem d_R_covers_114 : decode b_R_covers 114 = .ok (.laload, 1) := by decide +kernel
theorem d_R_covers_115 : decode b_R_covers 115 = .ok (.lmul, 1) := by decide +kernel
theorem d_R_covers_116 : decode b_R_covers 116 = .ok (.ladd, 1) := by decide +kernel
theorem d_R_covers_117 : decode b_R_covers 117 = .ok (.lastore, 1) := by decide +kernel
theorem d_R_covers_118 : decode b_R_covers 118 = .ok (.iload 6, 2) := by decide +kernel
theorem d_R_covers_120 : decode b_R_covers 120 = .ok (.ifCond .eq (52), 3) := by decide +kernel
theorem d_R_covers_123 : decode b_R_covers 123 = .ok (.aload_n 0, 1) := by decide +kernel
theorem d_R_covers_124 : decode b_R_covers 124 = .ok (.getfield 44, 3) := by decide +kernel
theorem d_R_covers_127 : decode b_R_covers 127 = .ok (.iload 7, 2) := by decide +kernel
theorem d_R_covers_129 : decode b_R_covers 129 = .ok (.laload, 1) := by decide +kernel
theorem d_R_covers_130 : decode b_R_covers 130 = .ok (.lconst 0, 1) := by decide +kernel
theorem d_R_covers_131 : decode b_R_covers 131 = .ok (.lcmp, 1) := by decide +kernel
theorem d_R_covers_132 : decode b_R_covers 132 = .ok (.ifCond .gt (36), 3) := by decide +kernel
theorem d_R_covers_135 : decode b_R_covers 135 = .ok (.aload_n 0, 1) := by decide +kernel
theorem d_R_covers_136 : decode b_R_covers 136 = .ok (.getfield 44, 3) := by decide +kernel
theorem d_R_covers_139 : decode b_R_covers 139 = .ok (.iload 7, 2) := by decide +kernel
theorem d_R_covers_141 : decode b_R_covers 141 = .ok (.laload, 1) := by decide +kernel
theorem d_R_covers_142 : decode b_R_covers 142 = .ok (.lconst 0, 1) := by decide +kernel
theorem d_R_covers_143 : decode b_R_covers 143 = .ok (.lcmp, 1) := by decide +kernel
theorem d_R_covers_144 : decode b_R_covers 144 = .ok (.ifCond .ne (28), 3) := by decide +kernel
theorem d_R_covers_147 : decode b_R_covers 147 = .ok (.lload 8, 2) := by decide +kernel
theorem d_R_covers_149 : decode b_R_covers 149 = .ok (.lconst 0, 1) := by decide +kernel
theorem d_R_covers_150 : decode b_R_covers 150 = .ok (.lcmp, 1) := by decide +kernel
theorem d_R_covers_151 : decode b_R_covers 151 = .ok (.ifCond .gt (17), 3) := by decide +kernel
theorem d_R_covers_154 : decode b_R_covers 154 = .ok (.lload 8, 2) := by decide +kernel
theorem d_R_covers_156 : decode b_R_covers 156 = .ok (.lconst 0, 1) := by decide +kernel
theorem d_R_covers_157 : decode b_R_covers 157 = .ok (.lcmp, 1) := by decide +kernel
theorem d_R_covers_158 : decode b_R_covers 158 = .ok (.ifCond .ne (14), 3) := by decide +kernel
theorem d_R_covers_161 : decode b_R_covers 161 = .ok (.lload 10, 2) := by decide +kernel
theorem d_R_covers_163 : decode b_R_covers 163 = .ok (.lconst 0, 1) := by decide +kernel
theorem d_R_covers_164 : decode b_R_covers 164 = .ok (.lcmp, 1) := by decide +kernel
theorem d_R_covers_165 : decode b_R_covers 165 = .ok (.ifCond .le (7), 3) := by decide +kernel
theorem d_R_covers_168 : decode b_R_covers 168 = .ok (.iconst 1, 1) := by decide +kernel
theorem d_R_covers_169 : decode b_R_covers 169 = .ok (.goto (4), 3) := by decide +kernel
theorem d_R_covers_172 : decode b_R_covers 172 = .ok (.iconst 0, 1) := by decide +kernel
theorem d_R_covers_173 : decode b_R_covers 173 = .ok (.istore 6, 2) := by decide +kernel
theorem d_R_covers_175 : decode b_R_covers 175 = .ok (.iinc 7 (1), 3) := by decide +kernel
theorem d_R_covers_178 : decode b_R_covers 178 = .ok (.goto (-127), 3) := by decide +kernel
theorem d_R_covers_181 : decode b_R_covers 181 = .ok (.iload 6, 2) := by decide +kernel
theorem d_R_covers_183 : decode b_R_covers 183 = .ok (.ireturn, 1) := by decide +kernel
theorem d_R_texelOf_0 : decode b_R_texelOf 0 = .ok (.aload_n 0, 1) := by decide +kernel
theorem d_R_texelOf_1 : decode b_R_texelOf 1 = .ok (.getfield 44, 3) := by decide +kernel
theorem d_R_texelOf_4 : decode b_R_texelOf 4 = .ok (.iconst 0, 1) := by decide +kernel
theorem d_R_texelOf_5 : decode b_R_texelOf 5 = .ok (.laload, 1) := by decide +kernel
theorem d_R_texelOf_6 : decode b_R_texelOf 6 = .ok (.aload_n 0, 1) := by decide +kernel
theorem d_R_texelOf_7 : decode b_R_texelOf 7 = .ok (.getfield 44, 3) := by decide +kernel
theorem d_R_texelOf_10 : decode b_R_texelOf 10 = .ok (.iconst 1, 1) := by decide +kernel
theorem d_R_texelOf_11 : decode b_R_texelOf 11 = .ok (.laload, 1) := by decide +kernel
theorem d_R_texelOf_12 : decode b_R_texelOf 12 = .ok (.ladd, 1) := by decide +kernel
theorem d_R_texelOf_13 : decode b_R_texelOf 13 = .ok (.aload_n 0, 1) := by decide +kernel
theorem d_R_texelOf_14 : decode b_R_texelOf 14 = .ok (.getfield 44, 3) := by decide +kernel
theorem d_R_texelOf_17 : decode b_R_texelOf 17 = .ok (.iconst 2, 1) := by decide +kernel
theorem d_R_texelOf_18 : decode b_R_texelOf 18 = .ok (.laload, 1) := by decide +kernel
theorem d_R_texelOf_19 : decode b_R_texelOf 19 = .ok (.ladd, 1) := by decide +kernel
theorem d_R_texelOf_20 : decode b_R_texelOf 20 = .ok (.lstore_n 2, 1) := by decide +kernel
theorem d_R_texelOf_21 : decode b_R_texelOf 21 = .ok (.aload_n 0, 1) := by decide +kernel
theorem d_R_texelOf_22 : decode b_R_texelOf 22 = .ok (.getfield 44, 3) := by decide +kernel
theorem d_R_texelOf_25 : decode b_R_texelOf 25 = .ok (.iconst 0, 1) := by decide +kernel
theorem d_R_texelOf_26 : decode b_R_texelOf 26 = .ok (.laload, 1) := by decide +kernel
theorem d_R_texelOf_27 : decode b_R_texelOf 27 = .ok (.aload_n 0, 1) := by decide +kernel
theorem d_R_texelOf_28 : decode b_R_texelOf 28 = .ok (.iload_n 1, 1) := by decide +kernel
theorem d_R_texelOf_29 : decode b_R_texelOf 29 = .ok (.iconst 0, 1) := by decide +kernel
theorem d_R_texelOf_30 : decode b_R_texelOf 30 = .ok (.iconst 4, 1) := by decide +kernel
theorem d_R_texelOf_31 : decode b_R_texelOf 31 = .ok (.invokevirtual 94, 3) := by decide +kernel
theorem d_R_texelOf_34 : decode b_R_texelOf 34 = .ok (.lmul, 1) := by decide +kernel
theorem d_R_texelOf_35 : decode b_R_texelOf 35 = .ok (.aload_n 0, 1) := by decide +kernel
theorem d_R_texelOf_36 : decode b_R_texelOf 36 = .ok (.getfield 44, 3) := by decide +kernel
theorem d_R_texelOf_39 : decode b_R_texelOf 39 = .ok (.iconst 1, 1) := by decide +kernel
theorem d_R_texelOf_40 : decode b_R_texelOf 40 = .ok (.laload, 1) := by decide +kernel
theorem d_R_texelOf_41 : decode b_R_texelOf 41 = .ok (.aload_n 0, 1) := by decide +kernel
theorem d_R_texelOf_42 : decode b_R_texelOf 42 = .ok (.iload_n 1, 1) := by decide +kernel
theorem d_R_texelOf_43 : decode b_R_texelOf 43 = .ok (.iconst 1, 1) := by decide +kernel
theorem d_R_texelOf_44 : decode b_R_texelOf 44 = .ok (.iconst 4, 1) := by decide +kernel
theorem d_R_texelOf_45 : decode b_R_texelOf 45 = .ok (.invokevirtual 94, 3) := by decide +kernel
theorem d_R_texelOf_48 : decode b_R_texelOf 48 = .ok (.lmul, 1) := by decide +kernel
theorem d_R_texelOf_49 : decode b_R_texelOf 49 = .ok (.ladd, 1) := by decide +kernel
theorem d_R_texelOf_50 : decode b_R_texelOf 50 = .ok (.aload_n 0, 1) := by decide +kernel
theorem d_R_texelOf_51 : decode b_R_texelOf 51 = .ok (.getfield 44, 3) := by decide +kernel
theorem d_R_texelOf_54 : decode b_R_texelOf 54 = .ok (.iconst 2, 1) := by decide +kernel
theorem d_R_texelOf_55 : decode b_R_texelOf 55 = .ok (.laload, 1) := by decide +kernel
theorem d_R_texelOf_56 : decode b_R_texelOf 56 = .ok (.aload_n 0, 1) := by decide +kernel
theorem d_R_texelOf_57 : decode b_R_texelOf 57 = .ok (.iload_n 1, 1) := by decide +kernel
theorem d_R_texelOf_58 : decode b_R_texelOf 58 = .ok (.iconst 2, 1) := by decide +kernel
theorem d_R_texelOf_59 : decode b_R_texelOf 59 = .ok (.iconst 4, 1) := by decide +kernel
theorem d_R_texelOf_60 : decode b_R_texelOf 60 = .ok (.invokevirtual 94, 3) := by decide +kernel
theorem d_R_texelOf_63 : decode b_R_texelOf 63 = .ok (.lmul, 1) := by decide +kernel
theorem d_R_texelOf_64 : decode b_R_texelOf 64 = .ok (.ladd, 1) := by decide +kernel
theorem d_R_texelOf_65 : decode b_R_texelOf 65 = .ok (.lload_n 2, 1) := by decide +kernel
theorem d_R_texelOf_66 : decode b_R_texelOf 66 = .ok (.invokestatic 102, 3) := by decide +kernel
theorem d_R_texelOf_69 : decode b_R_texelOf 69 = .ok (.lstore 4, 2) := by decide +kernel
theorem d_R_texelOf_71 : decode b_R_texelOf 71 = .ok (.aload_n 0, 1) := by decide +kernel
theorem d_R_texelOf_72 : decode b_R_texelOf 72 = .ok (.getfield 44, 3) := by decide +kernel
theorem d_R_texelOf_75 : decode b_R_texelOf 75 = .ok (.iconst 0, 1) := by decide +kernel
theorem d_R_texelOf_76 : decode b_R_texelOf 76 = .ok (.laload, 1) := by decide +kernel
theorem d_R_texelOf_77 : decode b_R_texelOf 77 = .ok (.aload_n 0, 1) := by decide +kernel
theorem d_R_texelOf_78 : decode b_R_texelOf 78 = .ok (.iload_n 1, 1) := by decide +kernel
theorem d_R_texelOf_79 : decode b_R_texelOf 79 = .ok (.iconst 0, 1) := by decide +kernel
theorem d_R_texelOf_80 : decode b_R_texelOf 80 = .ok (.iconst 5, 1) := by decide +kernel
theorem d_R_texelOf_81 : decode b_R_texelOf 81 = .ok (.invokevirtual 94, 3) := by decide +kernel
theorem d_R_texelOf_84 : decode b_R_texelOf 84 = .ok (.lmul, 1) := by decide +kernel
theorem d_R_texelOf_85 : decode b_R_texelOf 85 = .ok (.aload_n 0, 1) := by decide +kernel
theorem d_R_texelOf_86 : decode b_R_texelOf 86 = .ok (.getfield 44, 3) := by decide +kernel
theorem d_R_texelOf_89 : decode b_R_texelOf 89 = .ok (.iconst 1, 1) := by decide +kernel
theorem d_R_texelOf_90 : decode b_R_texelOf 90 = .ok (.laload, 1) := by decide +kernel
theorem d_R_texelOf_91 : decode b_R_texelOf 91 = .ok (.aload_n 0, 1) := by decide +kernel
theorem d_R_texelOf_92 : decode b_R_texelOf 92 = .ok (.iload_n 1, 1) := by decide +kernel
theorem d_R_texelOf_93 : decode b_R_texelOf 93 = .ok (.iconst 1, 1) := by decide +kernel
theorem d_R_texelOf_94 : decode b_R_texelOf 94 = .ok (.iconst 5, 1) := by decide +kernel
theorem d_R_texelOf_95 : decode b_R_texelOf 95 = .ok (.invokevirtual 94, 3) := by decide +kernel
theorem d_R_texelOf_98 : decode b_R_texelOf 98 = .ok (.lmul, 1) := by decide +kernel
theorem d_R_texelOf_99 : decode b_R_texelOf 99 = .ok (.ladd, 1) := by decide +kernel
theorem d_R_texelOf_100 : decode b_R_texelOf 100 = .ok (.aload_n 0, 1) := by decide +kernel
theorem d_R_texelOf_101 : decode b_R_texelOf 101 = .ok (.getfield 44, 3) := by decide +kernel
theorem d_R_texelOf_104 : decode b_R_texelOf 104 = .ok (.iconst 2, 1) := by decide +kernel
theorem d_R_texelOf_105 : decode b_R_texelOf 105 = .ok (.laload, 1) := by decide +kernel
theorem d_R_texelOf_106 : decode b_R_texelOf 106 = .ok (.aload_n 0, 1) := by decide +kernel
theorem d_R_texelOf_107 : decode b_R_texelOf 107 = .ok (.iload_n 1, 1) := by decide +kernel
theorem d_R_texelOf_108 : decode b_R_texelOf 108 = .ok (.iconst 2, 1) := by decide +kernel
theorem d_R_texelOf_109 : decode b_R_texelOf 109 = .ok (.iconst 5, 1) := by decide +kernel
theorem d_R_texelOf_110 : decode b_R_texelOf 110 = .ok (.invokevirtual 94, 3) := by decide +kernel
theorem d_R_texelOf_113 : decode b_R_texelOf 113 = .ok (.lmul, 1) := by decide +kernel
theorem d_R_texelOf_114 : decode b_R_texelOf 114 = .ok (.ladd, 1) := by decide +kernel
theorem d_R_texelOf_115 : decode b_R_texelOf 115 = .ok (.lload_n 2, 1) := by decide +kernel
theorem d_R_texelOf_116 : decode b_R_texelOf 116 = .ok (.invokestatic 102, 3) := by decide +kernel
theorem d_R_texelOf_119 : decode b_R_texelOf 119 = .ok (.lstore 6, 2) := by decide +kernel
theorem d_R_texelOf_121 : decode b_R_texelOf 121 = .ok (.aload_n 0, 1) := by decide +kernel
theorem d_R_texelOf_122 : decode b_R_texelOf 122 = .ok (.getfield 28, 3) := by decide +kernel
theorem d_R_texelOf_125 : decode b_R_texelOf 125 = .ok (.iload_n 1, 1) := by decide +kernel
theorem d_R_texelOf_126 : decode b_R_texelOf 126 = .ok (.iaload, 1) := by decide +kernel
theorem d_R_texelOf_127 : decode b_R_texelOf 127 = .ok (.ifCond .ne (13), 3) := by decide +kernel
theorem d_R_texelOf_130 : decode b_R_texelOf 130 = .ok (.lload 4, 2) := by decide +kernel
theorem d_R_texelOf_132 : decode b_R_texelOf 132 = .ok (.ldc2_w 106, 3) := by decide +kernel
theorem d_R_texelOf_135 : decode b_R_texelOf 135 = .ok (.land, 1) := by decide +kernel
theorem d_R_texelOf_136 : decode b_R_texelOf 136 = .ok (.l2i, 1) := by decide +kernel
theorem d_R_texelOf_137 : decode b_R_texelOf 137 = .ok (.goto (31), 3) := by decide +kernel
theorem d_R_texelOf_140 : decode b_R_texelOf 140 = .ok (.lload 4, 2) := by decide +kernel
theorem d_R_texelOf_142 : decode b_R_texelOf 142 = .ok (.lconst 0, 1) := by decide +kernel
theorem d_R_texelOf_143 : decode b_R_texelOf 143 = .ok (.lcmp, 1) := by decide +kernel
theorem d_R_texelOf_144 : decode b_R_texelOf 144 = .ok (.ifCond .ge (7), 3) := by decide +kernel
theorem d_R_texelOf_147 : decode b_R_texelOf 147 = .ok (.iconst 0, 1) := by decide +kernel
theorem d_R_texelOf_148 : decode b_R_texelOf 148 = .ok (.goto (20), 3) := by decide +kernel
theorem d_R_texelOf_151 : decode b_R_texelOf 151 = .ok (.lload 4, 2) := by decide +kernel
theorem d_R_texelOf_153 : decode b_R_texelOf 153 = .ok (.ldc2_w 106, 3) := by decide +kernel
theorem d_R_texelOf_156 : decode b_R_texelOf 156 = .ok (.lcmp, 1) := by decide +kernel
theorem d_R_texelOf_157 : decode b_R_texelOf 157 = .ok (.ifCond .le (8), 3) := by decide +kernel
theorem d_R_texelOf_160 : decode b_R_texelOf 160 = .ok (.bipush (7), 2) := by decide +kernel
theorem d_R_texelOf_162 : decode b_R_texelOf 162 = .ok (.goto (6), 3) := by decide +kernel
theorem d_R_texelOf_165 : decode b_R_texelOf 165 = .ok (.lload 4, 2) := by decide +kernel
theorem d_R_texelOf_167 : decode b_R_texelOf 167 = .ok (.l2i, 1) := by decide +kernel
theorem d_R_texelOf_168 : decode b_R_texelOf 168 = .ok (.istore 8, 2) := by decide +kernel
theorem d_R_texelOf_170 : decode b_R_texelOf 170 = .ok (.aload_n 0, 1) := by decide +kernel
theorem d_R_texelOf_171 : decode b_R_texelOf 171 = .ok (.getfield 28, 3) := by decide +kernel
theorem d_R_texelOf_174 : decode b_R_texelOf 174 = .ok (.iload_n 1, 1) := by decide +kernel
theorem d_R_texelOf_175 : decode b_R_texelOf 175 = .ok (.iaload, 1) := by decide +kernel
theorem d_R_texelOf_176 : decode b_R_texelOf 176 = .ok (.ifCond .ne (13), 3) := by decide +kernel
theorem d_R_texelOf_179 : decode b_R_texelOf 179 = .ok (.lload 6, 2) := by decide +kernel
theorem d_R_texelOf_181 : decode b_R_texelOf 181 = .ok (.ldc2_w 106, 3) := by decide +kernel
theorem d_R_texelOf_184 : decode b_R_texelOf 184 = .ok (.land, 1) := by decide +kernel
theorem d_R_texelOf_185 : decode b_R_texelOf 185 = .ok (.l2i, 1) := by decide +kernel
theorem d_R_texelOf_186 : decode b_R_texelOf 186 = .ok (.goto (31), 3) := by decide +kernel
theorem d_R_texelOf_189 : decode b_R_texelOf 189 = .ok (.lload 6, 2) := by decide +kernel
theorem d_R_texelOf_191 : decode b_R_texelOf 191 = .ok (.lconst 0, 1) := by decide +kernel
theorem d_R_texelOf_192 : decode b_R_texelOf 192 = .ok (.lcmp, 1) := by decide +kernel
theorem d_R_texelOf_193 : decode b_R_texelOf 193 = .ok (.ifCond .ge (7), 3) := by decide +kernel
theorem d_R_texelOf_196 : decode b_R_texelOf 196 = .ok (.iconst 0, 1) := by decide +kernel
theorem d_R_texelOf_197 : decode b_R_texelOf 197 = .ok (.goto (20), 3) := by decide +kernel
theorem d_R_texelOf_200 : decode b_R_texelOf 200 = .ok (.lload 6, 2) := by decide +kernel
theorem d_R_texelOf_202 : decode b_R_texelOf 202 = .ok (.ldc2_w 106, 3) := by decide +kernel
theorem d_R_texelOf_205 : decode b_R_texelOf 205 = .ok (.lcmp, 1) := by decide +kernel
theorem d_R_texelOf_206 : decode b_R_texelOf 206 = .ok (.ifCond .le (8), 3) := by decide +kernel
theorem d_R_texelOf_209 : decode b_R_texelOf 209 = .ok (.bipush (7), 2) := by decide +kernel
theorem d_R_texelOf_211 : decode b_R_texelOf 211 = .ok (.goto (6), 3) := by decide +kernel
theorem d_R_texelOf_214 : decode b_R_texelOf 214 = .ok (.lload 6, 2) := by decide +kernel
theorem d_R_texelOf_216 : decode b_R_texelOf 216 = .ok (.l2i, 1) := by decide +kernel
theorem d_R_texelOf_217 : decode b_R_texelOf 217 = .ok (.istore 9, 2) := by decide +kernel
theorem d_R_texelOf_219 : decode b_R_texelOf 219 = .ok (.aload_n 0, 1) := by decide +kernel
theorem d_R_texelOf_220 : decode b_R_texelOf 220 = .ok (.getfield 19, 3) := by decide +kernel
theorem d_R_texelOf_223 : decode b_R_texelOf 223 = .ok (.bipush (64), 2) := by decide +kernel
theorem d_R_texelOf_225 : decode b_R_texelOf 225 = .ok (.aload_n 0, 1) := by decide +kernel
theorem d_R_texelOf_226 : decode b_R_texelOf 226 = .ok (.getfield 25, 3) := by decide +kernel
theorem d_R_texelOf_229 : decode b_R_texelOf 229 = .ok (.iload_n 1, 1) := by decide +kernel
theorem d_R_texelOf_230 : decode b_R_texelOf 230 = .ok (.iaload, 1) := by decide +kernel
theorem d_R_texelOf_231 : decode b_R_texelOf 231 = .ok (.imul, 1) := by decide +kernel
theorem d_R_texelOf_232 : decode b_R_texelOf 232 = .ok (.bipush (8), 2) := by decide +kernel
theorem d_R_texelOf_234 : decode b_R_texelOf 234 = .ok (.iload 8, 2) := by decide +kernel
theorem d_R_texelOf_236 : decode b_R_texelOf 236 = .ok (.imul, 1) := by decide +kernel
theorem d_R_texelOf_237 : decode b_R_texelOf 237 = .ok (.iadd, 1) := by decide +kernel
theorem d_R_texelOf_238 : decode b_R_texelOf 238 = .ok (.iload 9, 2) := by decide +kernel
theorem d_R_texelOf_240 : decode b_R_texelOf 240 = .ok (.iadd, 1) := by decide +kernel
theorem d_R_texelOf_241 : decode b_R_texelOf 241 = .ok (.iaload, 1) := by decide +kernel
theorem d_R_texelOf_242 : decode b_R_texelOf 242 = .ok (.ireturn, 1) := by decide +kernel
theorem d_R_draw_0 : decode b_R_draw 0 = .ok (.aload_n 0, 1) := by decide +kernel
theorem d_R_draw_1 : decode b_R_draw 1 = .ok (.iconst 0, 1) := by decide +kernel
theorem d_R_draw_2 : decode b_R_draw 2 = .ok (.putfield 59, 3) := by decide +kernel
theorem d_R_draw_5 : decode b_R_draw 5 = .ok (.iconst 0, 1) := by decide +kernel
theorem d_R_draw_6 : decode b_R_draw 6 = .ok (.istore_n 2, 1) := by decide +kernel
theorem d_R_draw_7 : decode b_R_draw 7 = .ok (.iload_n 2, 1) := by decide +kernel
theorem d_R_draw_8 : decode b_R_draw 8 = .ok (.sipush (192), 3) := by decide +kernel
theorem d_R_draw_11 : decode b_R_draw 11 = .ok (.if_icmp .ge (27), 3) := by decide +kernel
theorem d_R_draw_14 : decode b_R_draw 14 = .ok (.aload_n 0, 1) := by decide +kernel
theorem d_R_draw_15 : decode b_R_draw 15 = .ok (.getfield 47, 3) := by decide +kernel
theorem d_R_draw_18 : decode b_R_draw 18 = .ok (.iload_n 2, 1) := by decide +kernel
theorem d_R_draw_19 : decode b_R_draw 19 = .ok (.iconst (-1), 1) := by decide +kernel
theorem d_R_draw_20 : decode b_R_draw 20 = .ok (.iastore, 1) := by decide +kernel
theorem d_R_draw_21 : decode b_R_draw 21 = .ok (.aload_n 0, 1) := by decide +kernel
theorem d_R_draw_22 : decode b_R_draw 22 = .ok (.getfield 50, 3) := by decide +kernel
theorem d_R_draw_25 : decode b_R_draw 25 = .ok (.iload_n 2, 1) := by decide +kernel
theorem d_R_draw_26 : decode b_R_draw 26 = .ok (.iload_n 1, 1) := by decide +kernel
theorem d_R_draw_27 : decode b_R_draw 27 = .ok (.sipush (255), 3) := by decide +kernel
theorem d_R_draw_30 : decode b_R_draw 30 = .ok (.iand, 1) := by decide +kernel
theorem d_R_draw_31 : decode b_R_draw 31 = .ok (.iastore, 1) := by decide +kernel
theorem d_R_draw_32 : decode b_R_draw 32 = .ok (.iinc 2 (1), 3) := by decide +kernel
theorem d_R_draw_35 : decode b_R_draw 35 = .ok (.goto (-28), 3) := by decide +kernel
theorem d_R_draw_38 : decode b_R_draw 38 = .ok (.iconst 0, 1) := by decide +kernel
theorem d_R_draw_39 : decode b_R_draw 39 = .ok (.istore_n 2, 1) := by decide +kernel
theorem d_R_draw_40 : decode b_R_draw 40 = .ok (.iload_n 2, 1) := by decide +kernel
theorem d_R_draw_41 : decode b_R_draw 41 = .ok (.aload_n 0, 1) := by decide +kernel
theorem d_R_draw_42 : decode b_R_draw 42 = .ok (.getfield 78, 3) := by decide +kernel
theorem d_R_draw_45 : decode b_R_draw 45 = .ok (.iconst 3, 1) := by decide +kernel
theorem d_R_draw_46 : decode b_R_draw 46 = .ok (.idiv, 1) := by decide +kernel
theorem d_R_draw_47 : decode b_R_draw 47 = .ok (.if_icmp .ge (193), 3) := by decide +kernel
theorem d_R_draw_50 : decode b_R_draw 50 = .ok (.aload_n 0, 1) := by decide +kernel
theorem d_R_draw_51 : decode b_R_draw 51 = .ok (.iload_n 2, 1) := by decide +kernel
theorem d_R_draw_52 : decode b_R_draw 52 = .ok (.invokevirtual 108, 3) := by decide +kernel
theorem d_R_draw_55 : decode b_R_draw 55 = .ok (.aload_n 0, 1) := by decide +kernel
theorem d_R_draw_56 : decode b_R_draw 56 = .ok (.getfield 98, 3) := by decide +kernel
theorem d_R_draw_59 : decode b_R_draw 59 = .ok (.lconst 0, 1) := by decide +kernel
theorem d_R_draw_60 : decode b_R_draw 60 = .ok (.lcmp, 1) := by decide +kernel
theorem d_R_draw_61 : decode b_R_draw 61 = .ok (.ifCond .ge (9), 3) := by decide +kernel
theorem d_R_draw_64 : decode b_R_draw 64 = .ok (.ldc2_w 112, 3) := by decide +kernel
theorem d_R_draw_67 : decode b_R_draw 67 = .ok (.goto (4), 3) := by decide +kernel
theorem d_R_draw_70 : decode b_R_draw 70 = .ok (.lconst 1, 1) := by decide +kernel
theorem d_R_draw_71 : decode b_R_draw 71 = .ok (.lstore_n 3, 1) := by decide +kernel
theorem d_R_draw_72 : decode b_R_draw 72 = .ok (.iconst 0, 1) := by decide +kernel
theorem d_R_draw_73 : decode b_R_draw 73 = .ok (.istore 5, 2) := by decide +kernel
theorem d_R_draw_75 : decode b_R_draw 75 = .ok (.iload 5, 2) := by decide +kernel
theorem d_R_draw_77 : decode b_R_draw 77 = .ok (.sipush (192), 3) := by decide +kernel
theorem d_R_draw_80 : decode b_R_draw 80 = .ok (.if_icmp .ge (154), 3) := by decide +kernel
theorem d_R_draw_83 : decode b_R_draw 83 = .ok (.aload_n 0, 1) := by decide +kernel
theorem d_R_draw_84 : decode b_R_draw 84 = .ok (.iload_n 2, 1) := by decide +kernel
theorem d_R_draw_85 : decode b_R_draw 85 = .ok (.iload 5, 2) := by decide +kernel
theorem d_R_draw_87 : decode b_R_draw 87 = .ok (.bipush (16), 2) := by decide +kernel
theorem d_R_draw_89 : decode b_R_draw 89 = .ok (.irem, 1) := by decide +kernel
theorem d_R_draw_90 : decode b_R_draw 90 = .ok (.iload 5, 2) := by decide +kernel
theorem d_R_draw_92 : decode b_R_draw 92 = .ok (.bipush (16), 2) := by decide +kernel
theorem d_R_draw_94 : decode b_R_draw 94 = .ok (.idiv, 1) := by decide +kernel
theorem d_R_draw_95 : decode b_R_draw 95 = .ok (.lload_n 3, 1) := by decide +kernel
theorem d_R_draw_96 : decode b_R_draw 96 = .ok (.invokevirtual 114, 3) := by decide +kernel
theorem d_R_draw_99 : decode b_R_draw 99 = .ok (.ifCond .eq (129), 3) := by decide +kernel
theorem d_R_draw_102 : decode b_R_draw 102 = .ok (.aload_n 0, 1) := by decide +kernel
theorem d_R_draw_103 : decode b_R_draw 103 = .ok (.getfield 44, 3) := by decide +kernel
theorem d_R_draw_106 : decode b_R_draw 106 = .ok (.iconst 0, 1) := by decide +kernel
theorem d_R_draw_107 : decode b_R_draw 107 = .ok (.laload, 1) := by decide +kernel
theorem d_R_draw_108 : decode b_R_draw 108 = .ok (.aload_n 0, 1) := by decide +kernel
theorem d_R_draw_109 : decode b_R_draw 109 = .ok (.iload_n 2, 1) := by decide +kernel
theorem d_R_draw_110 : decode b_R_draw 110 = .ok (.iconst 0, 1) := by decide +kernel
theorem d_R_draw_111 : decode b_R_draw 111 = .ok (.iconst 3, 1) := by decide +kernel
theorem d_R_draw_112 : decode b_R_draw 112 = .ok (.invokevirtual 94, 3) := by decide +kernel
theorem d_R_draw_115 : decode b_R_draw 115 = .ok (.lmul, 1) := by decide +kernel
theorem d_R_draw_116 : decode b_R_draw 116 = .ok (.aload_n 0, 1) := by decide +kernel
theorem d_R_draw_117 : decode b_R_draw 117 = .ok (.getfield 44, 3) := by decide +kernel
theorem d_R_draw_120 : decode b_R_draw 120 = .ok (.iconst 1, 1) := by decide +kernel
theorem d_R_draw_121 : decode b_R_draw 121 = .ok (.laload, 1) := by decide +kernel
theorem d_R_draw_122 : decode b_R_draw 122 = .ok (.aload_n 0, 1) := by decide +kernel
theorem d_R_draw_123 : decode b_R_draw 123 = .ok (.iload_n 2, 1) := by decide +kernel
theorem d_R_draw_124 : decode b_R_draw 124 = .ok (.iconst 1, 1) := by decide +kernel
theorem d_R_draw_125 : decode b_R_draw 125 = .ok (.iconst 3, 1) := by decide +kernel
theorem d_R_draw_126 : decode b_R_draw 126 = .ok (.invokevirtual 94, 3) := by decide +kernel
theorem d_R_draw_129 : decode b_R_draw 129 = .ok (.lmul, 1) := by decide +kernel
theorem d_R_draw_130 : decode b_R_draw 130 = .ok (.ladd, 1) := by decide +kernel
theorem d_R_draw_131 : decode b_R_draw 131 = .ok (.aload_n 0, 1) := by decide +kernel
theorem d_R_draw_132 : decode b_R_draw 132 = .ok (.getfield 44, 3) := by decide +kernel
theorem d_R_draw_135 : decode b_R_draw 135 = .ok (.iconst 2, 1) := by decide +kernel
theorem d_R_draw_136 : decode b_R_draw 136 = .ok (.laload, 1) := by decide +kernel
theorem d_R_draw_137 : decode b_R_draw 137 = .ok (.aload_n 0, 1) := by decide +kernel
theorem d_R_draw_138 : decode b_R_draw 138 = .ok (.iload_n 2, 1) := by decide +kernel
theorem d_R_draw_139 : decode b_R_draw 139 = .ok (.iconst 2, 1) := by decide +kernel
theorem d_R_draw_140 : decode b_R_draw 140 = .ok (.iconst 3, 1) := by decide +kernel
theorem d_R_draw_141 : decode b_R_draw 141 = .ok (.invokevirtual 94, 3) := by decide +kernel
theorem d_R_draw_144 : decode b_R_draw 144 = .ok (.lmul, 1) := by decide +kernel
theorem d_R_draw_145 : decode b_R_draw 145 = .ok (.ladd, 1) := by decide +kernel
theorem d_R_draw_146 : decode b_R_draw 146 = .ok (.lstore 6, 2) := by decide +kernel
theorem d_R_draw_148 : decode b_R_draw 148 = .ok (.aload_n 0, 1) := by decide +kernel
theorem d_R_draw_149 : decode b_R_draw 149 = .ok (.getfield 47, 3) := by decide +kernel
theorem d_R_draw_152 : decode b_R_draw 152 = .ok (.iload 5, 2) := by decide +kernel
theorem d_R_draw_154 : decode b_R_draw 154 = .ok (.iaload, 1) := by decide +kernel
theorem d_R_draw_155 : decode b_R_draw 155 = .ok (.ifCond .lt (31), 3) := by decide +kernel
theorem d_R_draw_158 : decode b_R_draw 158 = .ok (.lload 6, 2) := by decide +kernel
theorem d_R_draw_160 : decode b_R_draw 160 = .ok (.lload_n 3, 1) := by decide +kernel
theorem d_R_draw_161 : decode b_R_draw 161 = .ok (.aload_n 0, 1) := by decide +kernel
theorem d_R_draw_162 : decode b_R_draw 162 = .ok (.getfield 98, 3) := by decide +kernel
theorem d_R_draw_165 : decode b_R_draw 165 = .ok (.lmul, 1) := by decide +kernel
theorem d_R_draw_166 : decode b_R_draw 166 = .ok (.aload_n 0, 1) := by decide +kernel
theorem d_R_draw_167 : decode b_R_draw 167 = .ok (.getfield 53, 3) := by decide +kernel
theorem d_R_draw_170 : decode b_R_draw 170 = .ok (.iload 5, 2) := by decide +kernel
theorem d_R_draw_172 : decode b_R_draw 172 = .ok (.laload, 1) := by decide +kernel
theorem d_R_draw_173 : decode b_R_draw 173 = .ok (.aload_n 0, 1) := by decide +kernel
theorem d_R_draw_174 : decode b_R_draw 174 = .ok (.getfield 56, 3) := by decide +kernel
theorem d_R_draw_177 : decode b_R_draw 177 = .ok (.iload 5, 2) := by decide +kernel
theorem d_R_draw_179 : decode b_R_draw 179 = .ok (.laload, 1) := by decide +kernel
theorem d_R_draw_180 : decode b_R_draw 180 = .ok (.invokestatic 118, 3) := by decide +kernel
theorem d_R_draw_183 : decode b_R_draw 183 = .ok (.ifCond .ge (45), 3) := by decide +kernel
theorem d_R_draw_186 : decode b_R_draw 186 = .ok (.aload_n 0, 1) := by decide +kernel
theorem d_R_draw_187 : decode b_R_draw 187 = .ok (.getfield 47, 3) := by decide +kernel
theorem d_R_draw_190 : decode b_R_draw 190 = .ok (.iload 5, 2) := by decide +kernel
theorem d_R_draw_192 : decode b_R_draw 192 = .ok (.iload_n 2, 1) := by decide +kernel
theorem d_R_draw_193 : decode b_R_draw 193 = .ok (.iastore, 1) := by decide +kernel
theorem d_R_draw_194 : decode b_R_draw 194 = .ok (.aload_n 0, 1) := by decide +kernel
theorem d_R_draw_195 : decode b_R_draw 195 = .ok (.getfield 53, 3) := by decide +kernel
theorem d_R_draw_198 : decode b_R_draw 198 = .ok (.iload 5, 2) := by decide +kernel
theorem d_R_draw_200 : decode b_R_draw 200 = .ok (.lload 6, 2) := by decide +kernel
theorem d_R_draw_202 : decode b_R_draw 202 = .ok (.lastore, 1) := by decide +kernel
theorem d_R_draw_203 : decode b_R_draw 203 = .ok (.aload_n 0, 1) := by decide +kernel
theorem d_R_draw_204 : decode b_R_draw 204 = .ok (.getfield 56, 3) := by decide +kernel
theorem d_R_draw_207 : decode b_R_draw 207 = .ok (.iload 5, 2) := by decide +kernel
theorem d_R_draw_209 : decode b_R_draw 209 = .ok (.lload_n 3, 1) := by decide +kernel
theorem d_R_draw_210 : decode b_R_draw 210 = .ok (.aload_n 0, 1) := by decide +kernel
theorem d_R_draw_211 : decode b_R_draw 211 = .ok (.getfield 98, 3) := by decide +kernel
theorem d_R_draw_214 : decode b_R_draw 214 = .ok (.lmul, 1) := by decide +kernel
theorem d_R_draw_215 : decode b_R_draw 215 = .ok (.lastore, 1) := by decide +kernel
theorem d_R_draw_216 : decode b_R_draw 216 = .ok (.aload_n 0, 1) := by decide +kernel
theorem d_R_draw_217 : decode b_R_draw 217 = .ok (.getfield 50, 3) := by decide +kernel
theorem d_R_draw_220 : decode b_R_draw 220 = .ok (.iload 5, 2) := by decide +kernel
theorem d_R_draw_222 : decode b_R_draw 222 = .ok (.aload_n 0, 1) := by decide +kernel
theorem d_R_draw_223 : decode b_R_draw 223 = .ok (.iload_n 2, 1) := by decide +kernel
theorem d_R_draw_224 : decode b_R_draw 224 = .ok (.invokevirtual 122, 3) := by decide +kernel
theorem d_R_draw_227 : decode b_R_draw 227 = .ok (.iastore, 1) := by decide +kernel
theorem d_R_draw_228 : decode b_R_draw 228 = .ok (.iinc 5 (1), 3) := by decide +kernel
theorem d_R_draw_231 : decode b_R_draw 231 = .ok (.goto (-156), 3) := by decide +kernel
theorem d_R_draw_234 : decode b_R_draw 234 = .ok (.iinc 2 (1), 3) := by decide +kernel
theorem d_R_draw_237 : decode b_R_draw 237 = .ok (.goto (-197), 3) := by decide +kernel
theorem d_R_draw_240 : decode b_R_draw 240 = .ok (.iconst 0, 1) := by decide +kernel
theorem d_R_draw_241 : decode b_R_draw 241 = .ok (.istore_n 2, 1) := by decide +kernel
theorem d_R_draw_242 : decode b_R_draw 242 = .ok (.iconst 0, 1) := by decide +kernel
theorem d_R_draw_243 : decode b_R_draw 243 = .ok (.istore_n 3, 1) := by decide +kernel
theorem d_R_draw_244 : decode b_R_draw 244 = .ok (.iload_n 3, 1) := by decide +kernel
theorem d_R_draw_245 : decode b_R_draw 245 = .ok (.sipush (192), 3) := by decide +kernel
theorem d_R_draw_248 : decode b_R_draw 248 = .ok (.if_icmp .ge (26), 3) := by decide +kernel
theorem d_R_draw_251 : decode b_R_draw 251 = .ok (.aload_n 0, 1) := by decide +kernel
theorem d_R_draw_252 : decode b_R_draw 252 = .ok (.getfield 47, 3) := by decide +kernel
theorem d_R_draw_255 : decode b_R_draw 255 = .ok (.iload_n 3, 1) := by decide +kernel
theorem d_R_draw_256 : decode b_R_draw 256 = .ok (.iaload, 1) := by decide +kernel
theorem d_R_draw_257 : decode b_R_draw 257 = .ok (.ifCond .lt (9), 3) := by decide +kernel
theorem d_R_draw_260 : decode b_R_draw 260 = .ok (.iload_n 2, 1) := by decide +kernel
theorem d_R_draw_261 : decode b_R_draw 261 = .ok (.iconst 1, 1) := by decide +kernel
theorem d_R_draw_262 : decode b_R_draw 262 = .ok (.iadd, 1) := by decide +kernel
theorem d_R_draw_263 : decode b_R_draw 263 = .ok (.goto (4), 3) := by decide +kernel
theorem d_R_draw_266 : decode b_R_draw 266 = .ok (.iload_n 2, 1) := by decide +kernel
theorem d_R_draw_267 : decode b_R_draw 267 = .ok (.istore_n 2, 1) := by decide +kernel
theorem d_R_draw_268 : decode b_R_draw 268 = .ok (.iinc 3 (1), 3) := by decide +kernel
theorem d_R_draw_271 : decode b_R_draw 271 = .ok (.goto (-27), 3) := by decide +kernel
theorem d_R_draw_274 : decode b_R_draw 274 = .ok (.iload_n 2, 1) := by decide +kernel
theorem d_R_draw_275 : decode b_R_draw 275 = .ok (.ireturn, 1) := by decide +kernel
theorem d_R_colour_0 : decode b_R_colour 0 = .ok (.aload_n 0, 1) := by decide +kernel
theorem d_R_colour_1 : decode b_R_colour 1 = .ok (.iload_n 1, 1) := by decide +kernel
theorem d_R_colour_2 : decode b_R_colour 2 = .ok (.iload_n 2, 1) := by decide +kernel
theorem d_R_colour_3 : decode b_R_colour 3 = .ok (.invokestatic 126, 3) := by decide +kernel
theorem d_R_colour_6 : decode b_R_colour 6 = .ok (.ifCond .eq (7), 3) := by decide +kernel
theorem d_R_colour_9 : decode b_R_colour 9 = .ok (.iconst 0, 1) := by decide +kernel
theorem d_R_colour_10 : decode b_R_colour 10 = .ok (.goto (4), 3) := by decide +kernel
theorem d_R_colour_13 : decode b_R_colour 13 = .ok (.iconst 1, 1) := by decide +kernel
theorem d_R_colour_14 : decode b_R_colour 14 = .ok (.putfield 59, 3) := by decide +kernel
theorem d_R_colour_17 : decode b_R_colour 17 = .ok (.aload_n 0, 1) := by decide +kernel
theorem d_R_colour_18 : decode b_R_colour 18 = .ok (.getfield 59, 3) := by decide +kernel
theorem d_R_colour_21 : decode b_R_colour 21 = .ok (.ifCond .le (7), 3) := by decide +kernel
theorem d_R_colour_24 : decode b_R_colour 24 = .ok (.iconst 0, 1) := by decide +kernel
theorem d_R_colour_25 : decode b_R_colour 25 = .ok (.goto (14), 3) := by decide +kernel
theorem d_R_colour_28 : decode b_R_colour 28 = .ok (.aload_n 0, 1) := by decide +kernel
theorem d_R_colour_29 : decode b_R_colour 29 = .ok (.getfield 50, 3) := by decide +kernel
theorem d_R_colour_32 : decode b_R_colour 32 = .ok (.bipush (16), 2) := by decide +kernel
theorem d_R_colour_34 : decode b_R_colour 34 = .ok (.iload_n 2, 1) := by decide +kernel
theorem d_R_colour_35 : decode b_R_colour 35 = .ok (.imul, 1) := by decide +kernel
theorem d_R_colour_36 : decode b_R_colour 36 = .ok (.iload_n 1, 1) := by decide +kernel
theorem d_R_colour_37 : decode b_R_colour 37 = .ok (.iadd, 1) := by decide +kernel
theorem d_R_colour_38 : decode b_R_colour 38 = .ok (.iaload, 1) := by decide +kernel
theorem d_R_colour_39 : decode b_R_colour 39 = .ok (.ireturn, 1) := by decide +kernel
theorem d_R_owner_0 : decode b_R_owner 0 = .ok (.aload_n 0, 1) := by decide +kernel
theorem d_R_owner_1 : decode b_R_owner 1 = .ok (.iload_n 1, 1) := by decide +kernel
theorem d_R_owner_2 : decode b_R_owner 2 = .ok (.iload_n 2, 1) := by decide +kernel
theorem d_R_owner_3 : decode b_R_owner 3 = .ok (.invokestatic 126, 3) := by decide +kernel
theorem d_R_owner_6 : decode b_R_owner 6 = .ok (.ifCond .eq (7), 3) := by decide +kernel
theorem d_R_owner_9 : decode b_R_owner 9 = .ok (.iconst 0, 1) := by decide +kernel
theorem d_R_owner_10 : decode b_R_owner 10 = .ok (.goto (4), 3) := by decide +kernel
theorem d_R_owner_13 : decode b_R_owner 13 = .ok (.iconst 1, 1) := by decide +kernel
theorem d_R_owner_14 : decode b_R_owner 14 = .ok (.putfield 59, 3) := by decide +kernel
theorem d_R_owner_17 : decode b_R_owner 17 = .ok (.aload_n 0, 1) := by decide +kernel
theorem d_R_owner_18 : decode b_R_owner 18 = .ok (.getfield 59, 3) := by decide +kernel
theorem d_R_owner_21 : decode b_R_owner 21 = .ok (.ifCond .le (7), 3) := by decide +kernel
theorem d_R_owner_24 : decode b_R_owner 24 = .ok (.iconst 0, 1) := by decide +kernel
theorem d_R_owner_25 : decode b_R_owner 25 = .ok (.goto (14), 3) := by decide +kernel
theorem d_R_owner_28 : decode b_R_owner 28 = .ok (.aload_n 0, 1) := by decide +kernel
theorem d_R_owner_29 : decode b_R_owner 29 = .ok (.getfield 47, 3) := by decide +kernel
theorem d_R_owner_32 : decode b_R_owner 32 = .ok (.bipush (16), 2) := by decide +kernel
theorem d_R_owner_34 : decode b_R_owner 34 = .ok (.iload_n 2, 1) := by decide +kernel
theorem d_R_owner_35 : decode b_R_owner 35 = .ok (.imul, 1) := by decide +kernel
theorem d_R_owner_36 : decode b_R_owner 36 = .ok (.iload_n 1, 1) := by decide +kernel
theorem d_R_owner_37 : decode b_R_owner 37 = .ok (.iadd, 1) := by decide +kernel
theorem d_R_owner_38 : decode b_R_owner 38 = .ok (.iaload, 1) := by decide +kernel
theorem d_R_owner_39 : decode b_R_owner 39 = .ok (.ireturn, 1) := by decide +kernel
theorem d_R_compare_0 : decode b_R_compare 0 = .ok (.aload_n 0, 1) := by decide +kernel
theorem d_R_compare_1 : decode b_R_compare 1 = .ok (.iload_n 1, 1) := by decide +kernel
theorem d_R_compare_2 : decode b_R_compare 2 = .ok (.iload_n 2, 1) := by decide +kernel
theorem d_R_compare_3 : decode b_R_compare 3 = .ok (.invokestatic 126, 3) := by decide +kernel
theorem d_R_compare_6 : decode b_R_compare 6 = .ok (.ifCond .eq (12), 3) := by decide +kernel
theorem d_R_compare_9 : decode b_R_compare 9 = .ok (.iload_n 3, 1) := by decide +kernel
theorem d_R_compare_10 : decode b_R_compare 10 = .ok (.iload 4, 2) := by decide +kernel
theorem d_R_compare_12 : decode b_R_compare 12 = .ok (.invokestatic 126, 3) := by decide +kernel
theorem d_R_compare_15 : decode b_R_compare 15 = .ok (.ifCond .ne (7), 3) := by decide +kernel
theorem d_R_compare_18 : decode b_R_compare 18 = .ok (.iconst 1, 1) := by decide +kernel
theorem d_R_compare_19 : decode b_R_compare 19 = .ok (.goto (37), 3) := by decide +kernel
theorem d_R_compare_22 : decode b_R_compare 22 = .ok (.aload_n 0, 1) := by decide +kernel
theorem d_R_compare_23 : decode b_R_compare 23 = .ok (.getfield 47, 3) := by decide +kernel
theorem d_R_compare_26 : decode b_R_compare 26 = .ok (.bipush (16), 2) := by decide +kernel
theorem d_R_compare_28 : decode b_R_compare 28 = .ok (.iload_n 2, 1) := by decide +kernel
theorem d_R_compare_29 : decode b_R_compare 29 = .ok (.imul, 1) := by decide +kernel
theorem d_R_compare_30 : decode b_R_compare 30 = .ok (.iload_n 1, 1) := by decide +kernel
theorem d_R_compare_31 : decode b_R_compare 31 = .ok (.iadd, 1) := by decide +kernel
theorem d_R_compare_32 : decode b_R_compare 32 = .ok (.iaload, 1) := by decide +kernel
theorem d_R_compare_33 : decode b_R_compare 33 = .ok (.ifCond .lt (18), 3) := by decide +kernel
theorem d_R_compare_36 : decode b_R_compare 36 = .ok (.aload_n 0, 1) := by decide +kernel
theorem d_R_compare_37 : decode b_R_compare 37 = .ok (.getfield 47, 3) := by decide +kernel
theorem d_R_compare_40 : decode b_R_compare 40 = .ok (.bipush (16), 2) := by decide +kernel
theorem d_R_compare_42 : decode b_R_compare 42 = .ok (.iload 4, 2) := by decide +kernel
theorem d_R_compare_44 : decode b_R_compare 44 = .ok (.imul, 1) := by decide +kernel
theorem d_R_compare_45 : decode b_R_compare 45 = .ok (.iload_n 3, 1) := by decide +kernel
theorem d_R_compare_46 : decode b_R_compare 46 = .ok (.iadd, 1) := by decide +kernel
theorem d_R_compare_47 : decode b_R_compare 47 = .ok (.iaload, 1) := by decide +kernel
theorem d_R_compare_48 : decode b_R_compare 48 = .ok (.ifCond .ge (7), 3) := by decide +kernel
theorem d_R_compare_51 : decode b_R_compare 51 = .ok (.iconst 2, 1) := by decide +kernel
theorem d_R_compare_52 : decode b_R_compare 52 = .ok (.goto (4), 3) := by decide +kernel
theorem d_R_compare_55 : decode b_R_compare 55 = .ok (.iconst 0, 1) := by decide +kernel
theorem d_R_compare_56 : decode b_R_compare 56 = .ok (.putfield 59, 3) := by decide +kernel
theorem d_R_compare_59 : decode b_R_compare 59 = .ok (.aload_n 0, 1) := by decide +kernel
theorem d_R_compare_60 : decode b_R_compare 60 = .ok (.getfield 59, 3) := by decide +kernel
theorem d_R_compare_63 : decode b_R_compare 63 = .ok (.ifCond .le (7), 3) := by decide +kernel
theorem d_R_compare_66 : decode b_R_compare 66 = .ok (.iconst 0, 1) := by decide +kernel
theorem d_R_compare_67 : decode b_R_compare 67 = .ok (.goto (52), 3) := by decide +kernel
theorem d_R_compare_70 : decode b_R_compare 70 = .ok (.aload_n 0, 1) := by decide +kernel
theorem d_R_compare_71 : decode b_R_compare 71 = .ok (.getfield 53, 3) := by decide +kernel
theorem d_R_compare_74 : decode b_R_compare 74 = .ok (.bipush (16), 2) := by decide +kernel
theorem d_R_compare_76 : decode b_R_compare 76 = .ok (.iload_n 2, 1) := by decide +kernel
theorem d_R_compare_77 : decode b_R_compare 77 = .ok (.imul, 1) := by decide +kernel
theorem d_R_compare_78 : decode b_R_compare 78 = .ok (.iload_n 1, 1) := by decide +kernel
theorem d_R_compare_79 : decode b_R_compare 79 = .ok (.iadd, 1) := by decide +kernel
theorem d_R_compare_80 : decode b_R_compare 80 = .ok (.laload, 1) := by decide +kernel
theorem d_R_compare_81 : decode b_R_compare 81 = .ok (.aload_n 0, 1) := by decide +kernel
theorem d_R_compare_82 : decode b_R_compare 82 = .ok (.getfield 56, 3) := by decide +kernel
theorem d_R_compare_85 : decode b_R_compare 85 = .ok (.bipush (16), 2) := by decide +kernel
theorem d_R_compare_87 : decode b_R_compare 87 = .ok (.iload_n 2, 1) := by decide +kernel
theorem d_R_compare_88 : decode b_R_compare 88 = .ok (.imul, 1) := by decide +kernel
theorem d_R_compare_89 : decode b_R_compare 89 = .ok (.iload_n 1, 1) := by decide +kernel
theorem d_R_compare_90 : decode b_R_compare 90 = .ok (.iadd, 1) := by decide +kernel
theorem d_R_compare_91 : decode b_R_compare 91 = .ok (.laload, 1) := by decide +kernel
theorem d_R_compare_92 : decode b_R_compare 92 = .ok (.aload_n 0, 1) := by decide +kernel
theorem d_R_compare_93 : decode b_R_compare 93 = .ok (.getfield 53, 3) := by decide +kernel
theorem d_R_compare_96 : decode b_R_compare 96 = .ok (.bipush (16), 2) := by decide +kernel
theorem d_R_compare_98 : decode b_R_compare 98 = .ok (.iload 4, 2) := by decide +kernel
theorem d_R_compare_100 : decode b_R_compare 100 = .ok (.imul, 1) := by decide +kernel
theorem d_R_compare_101 : decode b_R_compare 101 = .ok (.iload_n 3, 1) := by decide +kernel
theorem d_R_compare_102 : decode b_R_compare 102 = .ok (.iadd, 1) := by decide +kernel
theorem d_R_compare_103 : decode b_R_compare 103 = .ok (.laload, 1) := by decide +kernel
theorem d_R_compare_104 : decode b_R_compare 104 = .ok (.aload_n 0, 1) := by decide +kernel
theorem d_R_compare_105 : decode b_R_compare 105 = .ok (.getfield 56, 3) := by decide +kernel
theorem d_R_compare_108 : decode b_R_compare 108 = .ok (.bipush (16), 2) := by decide +kernel
theorem d_R_compare_110 : decode b_R_compare 110 = .ok (.iload 4, 2) := by decide +kernel
theorem d_R_compare_112 : decode b_R_compare 112 = .ok (.imul, 1) := by decide +kernel
theorem d_R_compare_113 : decode b_R_compare 113 = .ok (.iload_n 3, 1) := by decide +kernel
theorem d_R_compare_114 : decode b_R_compare 114 = .ok (.iadd, 1) := by decide +kernel
theorem d_R_compare_115 : decode b_R_compare 115 = .ok (.laload, 1) := by decide +kernel
theorem d_R_compare_116 : decode b_R_compare 116 = .ok (.invokestatic 118, 3) := by decide +kernel
theorem d_R_compare_119 : decode b_R_compare 119 = .ok (.ireturn, 1) := by decide +kernel
theorem d_R_depth_0 : decode b_R_depth 0 = .ok (.aload_n 0, 1) := by decide +kernel
theorem d_R_depth_1 : decode b_R_depth 1 = .ok (.iload_n 1, 1) := by decide +kernel
theorem d_R_depth_2 : decode b_R_depth 2 = .ok (.iload_n 2, 1) := by decide +kernel
theorem d_R_depth_3 : decode b_R_depth 3 = .ok (.invokestatic 126, 3) := by decide +kernel
theorem d_R_depth_6 : decode b_R_depth 6 = .ok (.ifCond .ne (7), 3) := by decide +kernel
theorem d_R_depth_9 : decode b_R_depth 9 = .ok (.iconst 1, 1) := by decide +kernel
theorem d_R_depth_10 : decode b_R_depth 10 = .ok (.goto (22), 3) := by decide +kernel
theorem d_R_depth_13 : decode b_R_depth 13 = .ok (.aload_n 0, 1) := by decide +kernel
theorem d_R_depth_14 : decode b_R_depth 14 = .ok (.getfield 47, 3) := by decide +kernel
theorem d_R_depth_17 : decode b_R_depth 17 = .ok (.bipush (16), 2) := by decide +kernel
theorem d_R_depth_19 : decode b_R_depth 19 = .ok (.iload_n 2, 1) := by decide +kernel
theorem d_R_depth_20 : decode b_R_depth 20 = .ok (.imul, 1) := by decide +kernel
theorem d_R_depth_21 : decode b_R_depth 21 = .ok (.iload_n 1, 1) := by decide +kernel
theorem d_R_depth_22 : decode b_R_depth 22 = .ok (.iadd, 1) := by decide +kernel
theorem d_R_depth_23 : decode b_R_depth 23 = .ok (.iaload, 1) := by decide +kernel
theorem d_R_depth_24 : decode b_R_depth 24 = .ok (.ifCond .ge (7), 3) := by decide +kernel
theorem d_R_depth_27 : decode b_R_depth 27 = .ok (.iconst 2, 1) := by decide +kernel
theorem d_R_depth_28 : decode b_R_depth 28 = .ok (.goto (4), 3) := by decide +kernel
theorem d_R_depth_31 : decode b_R_depth 31 = .ok (.iconst 0, 1) := by decide +kernel
theorem d_R_depth_32 : decode b_R_depth 32 = .ok (.putfield 59, 3) := by decide +kernel
theorem d_R_depth_35 : decode b_R_depth 35 = .ok (.aload_n 0, 1) := by decide +kernel
theorem d_R_depth_36 : decode b_R_depth 36 = .ok (.getfield 59, 3) := by decide +kernel
theorem d_R_depth_39 : decode b_R_depth 39 = .ok (.ifCond .le (7), 3) := by decide +kernel
theorem d_R_depth_42 : decode b_R_depth 42 = .ok (.lconst 0, 1) := by decide +kernel
theorem d_R_depth_43 : decode b_R_depth 43 = .ok (.goto (28), 3) := by decide +kernel
theorem d_R_depth_46 : decode b_R_depth 46 = .ok (.aload_n 0, 1) := by decide +kernel
theorem d_R_depth_47 : decode b_R_depth 47 = .ok (.getfield 53, 3) := by decide +kernel
theorem d_R_depth_50 : decode b_R_depth 50 = .ok (.bipush (16), 2) := by decide +kernel
theorem d_R_depth_52 : decode b_R_depth 52 = .ok (.iload_n 2, 1) := by decide +kernel
theorem d_R_depth_53 : decode b_R_depth 53 = .ok (.imul, 1) := by decide +kernel
theorem d_R_depth_54 : decode b_R_depth 54 = .ok (.iload_n 1, 1) := by decide +kernel
theorem d_R_depth_55 : decode b_R_depth 55 = .ok (.iadd, 1) := by decide +kernel
theorem d_R_depth_56 : decode b_R_depth 56 = .ok (.laload, 1) := by decide +kernel
theorem d_R_depth_57 : decode b_R_depth 57 = .ok (.aload_n 0, 1) := by decide +kernel
theorem d_R_depth_58 : decode b_R_depth 58 = .ok (.getfield 56, 3) := by decide +kernel
theorem d_R_depth_61 : decode b_R_depth 61 = .ok (.bipush (16), 2) := by decide +kernel
theorem d_R_depth_63 : decode b_R_depth 63 = .ok (.iload_n 2, 1) := by decide +kernel
theorem d_R_depth_64 : decode b_R_depth 64 = .ok (.imul, 1) := by decide +kernel
theorem d_R_depth_65 : decode b_R_depth 65 = .ok (.iload_n 1, 1) := by decide +kernel
theorem d_R_depth_66 : decode b_R_depth 66 = .ok (.iadd, 1) := by decide +kernel
theorem d_R_depth_67 : decode b_R_depth 67 = .ok (.laload, 1) := by decide +kernel
theorem d_R_depth_68 : decode b_R_depth 68 = .ok (.invokestatic 102, 3) := by decide +kernel
theorem d_R_depth_71 : decode b_R_depth 71 = .ok (.lreturn, 1) := by decide +kernel
theorem d_R_triangle_0 : decode b_R_triangle 0 = .ok (.aload_n 0, 1) := by decide +kernel
theorem d_R_triangle_1 : decode b_R_triangle 1 = .ok (.iload_n 1, 1) := by decide +kernel
theorem d_R_triangle_2 : decode b_R_triangle 2 = .ok (.ifCond .lt (23), 3) := by decide +kernel
theorem d_R_triangle_5 : decode b_R_triangle 5 = .ok (.iload_n 1, 1) := by decide +kernel
theorem d_R_triangle_6 : decode b_R_triangle 6 = .ok (.aload_n 0, 1) := by decide +kernel
theorem d_R_triangle_7 : decode b_R_triangle 7 = .ok (.getfield 78, 3) := by decide +kernel
theorem d_R_triangle_10 : decode b_R_triangle 10 = .ok (.iconst 3, 1) := by decide +kernel
theorem d_R_triangle_11 : decode b_R_triangle 11 = .ok (.idiv, 1) := by decide +kernel
theorem d_R_triangle_12 : decode b_R_triangle 12 = .ok (.if_icmp .ge (13), 3) := by decide +kernel
theorem d_R_triangle_15 : decode b_R_triangle 15 = .ok (.iload_n 2, 1) := by decide +kernel
theorem d_R_triangle_16 : decode b_R_triangle 16 = .ok (.ifCond .lt (9), 3) := by decide +kernel
theorem d_R_triangle_19 : decode b_R_triangle 19 = .ok (.iload_n 2, 1) := by decide +kernel
theorem d_R_triangle_20 : decode b_R_triangle 20 = .ok (.bipush (12), 2) := by decide +kernel
theorem d_R_triangle_22 : decode b_R_triangle 22 = .ok (.if_icmp .le (7), 3) := by decide +kernel
theorem d_R_triangle_25 : decode b_R_triangle 25 = .ok (.iconst 1, 1) := by decide +kernel
theorem d_R_triangle_26 : decode b_R_triangle 26 = .ok (.goto (4), 3) := by decide +kernel
theorem d_R_triangle_29 : decode b_R_triangle 29 = .ok (.iconst 0, 1) := by decide +kernel
theorem d_R_triangle_30 : decode b_R_triangle 30 = .ok (.putfield 59, 3) := by decide +kernel
theorem d_R_triangle_33 : decode b_R_triangle 33 = .ok (.aload_n 0, 1) := by decide +kernel
theorem d_R_triangle_34 : decode b_R_triangle 34 = .ok (.getfield 59, 3) := by decide +kernel
theorem d_R_triangle_37 : decode b_R_triangle 37 = .ok (.ifCond .le (5), 3) := by decide +kernel
theorem d_R_triangle_40 : decode b_R_triangle 40 = .ok (.lconst 0, 1) := by decide +kernel
theorem d_R_triangle_41 : decode b_R_triangle 41 = .ok (.lreturn, 1) := by decide +kernel
theorem d_R_triangle_42 : decode b_R_triangle 42 = .ok (.iload_n 2, 1) := by decide +kernel
theorem d_R_triangle_43 : decode b_R_triangle 43 = .ok (.ifCond .le (19), 3) := by decide +kernel
theorem d_R_triangle_46 : decode b_R_triangle 46 = .ok (.aload_n 0, 1) := by decide +kernel
theorem d_R_triangle_47 : decode b_R_triangle 47 = .ok (.iload_n 1, 1) := by decide +kernel
theorem d_R_triangle_48 : decode b_R_triangle 48 = .ok (.iload_n 2, 1) := by decide +kernel
theorem d_R_triangle_49 : decode b_R_triangle 49 = .ok (.iconst 1, 1) := by decide +kernel
theorem d_R_triangle_50 : decode b_R_triangle 50 = .ok (.isub, 1) := by decide +kernel
theorem d_R_triangle_51 : decode b_R_triangle 51 = .ok (.iconst 4, 1) := by decide +kernel
theorem d_R_triangle_52 : decode b_R_triangle 52 = .ok (.idiv, 1) := by decide +kernel
theorem d_R_triangle_53 : decode b_R_triangle 53 = .ok (.iload_n 2, 1) := by decide +kernel
theorem d_R_triangle_54 : decode b_R_triangle 54 = .ok (.iconst 1, 1) := by decide +kernel
theorem d_R_triangle_55 : decode b_R_triangle 55 = .ok (.isub, 1) := by decide +kernel
theorem d_R_triangle_56 : decode b_R_triangle 56 = .ok (.iconst 4, 1) := by decide +kernel
theorem d_R_triangle_57 : decode b_R_triangle 57 = .ok (.irem, 1) := by decide +kernel
theorem d_R_triangle_58 : decode b_R_triangle 58 = .ok (.invokevirtual 94, 3) := by decide +kernel
theorem d_R_triangle_61 : decode b_R_triangle 61 = .ok (.lreturn, 1) := by decide +kernel
theorem d_R_triangle_62 : decode b_R_triangle 62 = .ok (.aload_n 0, 1) := by decide +kernel
theorem d_R_triangle_63 : decode b_R_triangle 63 = .ok (.iload_n 1, 1) := by decide +kernel
theorem d_R_triangle_64 : decode b_R_triangle 64 = .ok (.invokevirtual 108, 3) := by decide +kernel
theorem d_R_triangle_67 : decode b_R_triangle 67 = .ok (.aload_n 0, 1) := by decide +kernel
theorem d_R_triangle_68 : decode b_R_triangle 68 = .ok (.getfield 98, 3) := by decide +kernel
theorem d_R_triangle_71 : decode b_R_triangle 71 = .ok (.lreturn, 1) := by decide +kernel
def fn_R_vertex (μ0 : xs_M) (x0 : Int32) (x1 : Int32) (x2 : Int32) (x3 : Int32) (x4 : Int32) : Option (Int32 × xs_M) :=
  ((fn_R_within μ0 x0 (31 : Int32)).bind fun w1 => (if w1 = 0 then ((some (xs_si μ0 154 0 (1 : Int32))).bind fun μ2 => some (((0 : Int32), μ2))) else ((fn_R_within μ0 x1 (31 : Int32)).bind fun w3 => (if w3 = 0 then ((some (xs_si μ0 154 0 (1 : Int32))).bind fun μ4 => some (((0 : Int32), μ4))) else ((fn_R_within μ0 x2 (31 : Int32)).bind fun w5 => (if w5 = 0 then ((some (xs_si μ0 154 0 (1 : Int32))).bind fun μ6 => some (((0 : Int32), μ6))) else ((fn_R_within μ0 x3 (127 : Int32)).bind fun w7 => (if w7 = 0 then ((some (xs_si μ0 154 0 (1 : Int32))).bind fun μ8 => some (((0 : Int32), μ8))) else ((fn_R_within μ0 x4 (127 : Int32)).bind fun w9 => (if w9 = 0 then ((some (xs_si μ0 154 0 (1 : Int32))).bind fun μ10 => some (((0 : Int32), μ10))) else (if (μ0.1 154 9) = (60 : Int32) then ((some (xs_si μ0 154 0 (2 : Int32))).bind fun μ35 => some (((0 : Int32), μ35))) else ((some (xs_si μ0 154 0 (0 : Int32))).bind fun μ11 => ((fn_R_line μ11 (3 : Int32) x0 x1 x2).bind fun w12 => ((fn_R_line μ11 (0 : Int32) x0 x1 x2).bind fun w13 => (if xs_in ((6 : Int32) * (μ11.1 154 9)) 360 = true then ((some (xs_si μ11 159 ((6 : Int32) * (μ11.1 154 9)).toNatClampNeg ((16 : Int32) * (w13 + w12)))).bind fun μ15 => ((fn_R_line μ15 (1 : Int32) x0 x1 x2).bind fun w16 => (if xs_in (((6 : Int32) * (μ15.1 154 9)) + (1 : Int32)) 360 = true then ((some (xs_si μ15 159 (((6 : Int32) * (μ15.1 154 9)) + (1 : Int32)).toNatClampNeg ((12 : Int32) * (w16 + w12)))).bind fun μ18 => (if xs_in (((6 : Int32) * (μ18.1 154 9)) + (2 : Int32)) 360 = true then ((some (xs_si μ18 159 (((6 : Int32) * (μ18.1 154 9)) + (2 : Int32)).toNatClampNeg (w12))).bind fun μ20 => ((fn_R_line μ20 (2 : Int32) x0 x1 x2).bind fun w21 => (if xs_in (((6 : Int32) * (μ20.1 154 9)) + (3 : Int32)) 360 = true then ((some (xs_si μ20 159 (((6 : Int32) * (μ20.1 154 9)) + (3 : Int32)).toNatClampNeg (w21))).bind fun μ23 => (if xs_in (((6 : Int32) * (μ23.1 154 9)) + (4 : Int32)) 360 = true then ((some (xs_si μ23 159 (((6 : Int32) * (μ23.1 154 9)) + (4 : Int32)).toNatClampNeg (x3))).bind fun μ25 => (if xs_in (((6 : Int32) * (μ25.1 154 9)) + (5 : Int32)) 360 = true then ((some (xs_si μ25 159 (((6 : Int32) * (μ25.1 154 9)) + (5 : Int32)).toNatClampNeg (x4))).bind fun μ27 => ((some (xs_si μ27 154 9 ((μ27.1 154 9) + (1 : Int32)))).bind fun μ28 => (if ((μ28.1 154 9) - (μ28.1 154 9) / (3 : Int32) * (3 : Int32)) = 0 then (if xs_in (((μ28.1 154 9) / (3 : Int32)) - (1 : Int32)) 20 = true then ((some (xs_si μ28 160 (((μ28.1 154 9) / (3 : Int32)) - (1 : Int32)).toNatClampNeg (μ28.1 154 5))).bind fun μ30 => (if xs_in (((μ30.1 154 9) / (3 : Int32)) - (1 : Int32)) 20 = true then ((some (xs_si μ30 161 (((μ30.1 154 9) / (3 : Int32)) - (1 : Int32)).toNatClampNeg (μ30.1 154 6))).bind fun μ32 => (if xs_in (((μ32.1 154 9) / (3 : Int32)) - (1 : Int32)) 20 = true then ((some (xs_si μ32 162 (((μ32.1 154 9) / (3 : Int32)) - (1 : Int32)).toNatClampNeg (μ32.1 154 7))).bind fun μ34 => some ((((μ34.1 154 9) / (3 : Int32)), μ34))) else none)) else none)) else none) else some ((((μ28.1 154 9) / (3 : Int32)), μ28))))) else none)) else none)) else none))) else none)) else none))) else none)))))))))))))))
set_option maxHeartbeats 4000000 in
set_option maxRecDepth 100000 in
theorem ok_R_vertex (l : Launch) (D : va_G) (ad : Nat → Nat) (cs : xs_cs) (hJ : xs_J ad) {μ0 : xs_M} {x0 : Int32} {x1 : Int32} {x2 : Int32} {x3 : Int32} {x4 : Int32}  {rz : (Int32 × xs_M)} (hE : fn_R_vertex μ0 x0 x1 x2 x3 x4 = some rz) : xs_I l D ad cs y_R_vertex b_R_vertex 8 (some .int) 1 24 [.ref (ad 154), .int (x0), .int (x1), .int (x2), .int (x3), .int (x4)] μ0 (some (.int rz.1)) rz.2 := by
  refine xs_entry hJ (by decide) (Nat.le_of_ble_eq_true rfl) ?_
  intro p e s m below meth c ls X hr hlk G hl
  have X : xs_C p s m c b_R_vertex 8 _ "ExactSceneModel" := X
  have hx := X.1
  have hb := X.2.1
  have hl : lv_has ls 8 [(0, .ref (ad 154)), (1, .int (x0)), (2, .int (x1)), (3, .int (x2)), (4, .int (x3)), (5, .int (x4))] := hl
  unfold fn_R_vertex at hE
  refine lv_iload_n (pc := 0) hx hb d_R_vertex_0 rfl (lv_at hl 1 rfl) ?_
  refine lv_bipush (pc := 1) (v := (31 : Int32)) hx hb d_R_vertex_1 (by decide) ?_
  obtain ⟨w1, hw1, hE⟩ := xs_b hE
  refine xs_callSr (pc := 3) (as := [.int (x0), .int ((31 : Int32))]) X (ok_R_within l D ad cs hJ hw1) km_R_74 G ⟨by decide, by decide⟩ ⟨Nat.zero_le _, Nat.zero_le _⟩ rfl hl.1 rfl (Nat.le_of_ble_eq_true rfl) d_R_vertex_3 (fun H locs G => ?_)
  refine lv_if_eq (pc := 6) (tgt := 51) hx hb d_R_vertex_6 (by decide) (fun hc => ?_) (fun hc => ?_)
  · have hE := xs_t hE hc
    refine lv_iconst (pc := 51) (v := (0 : Int32)) hx hb d_R_vertex_51 (by decide) ?_
    refine lv_istore (pc := 52) hx hb d_R_vertex_52 hl (by decide) (lv' := [(6, .int ((0 : Int32))), (0, .ref (ad 154)), (1, .int (x0)), (2, .int (x1)), (3, .int (x2)), (4, .int (x3)), (5, .int (x4))]) rfl (fun ls hl => ?_)
    refine lv_aload_n (pc := 54) hx hb d_R_vertex_54 rfl (lv_at hl 1 rfl) ?_
    refine lv_iload (pc := 55) hx hb d_R_vertex_55 (lv_at hl 0 rfl) ?_
    refine lv_if_ne (pc := 57) (tgt := 64) hx hb d_R_vertex_57 (by decide) (fun hc => ?_) (fun hc => ?_)
    · exact absurd hc (by decide)
    · refine lv_iconst (pc := 60) (v := (1 : Int32)) hx hb d_R_vertex_60 (by decide) ?_
      refine lv_goto (pc := 61) (tgt := 78) hx hb d_R_vertex_61 (by decide) ?_
      refine pf_R_59 (pc := 78) X G d_R_vertex_78 (fun H locs G => ?_)
      obtain ⟨μ2, hμ2, hE⟩ := xs_b hE
      have G := xs_mv G hμ2
      have hfμ2 := xs_fi hμ2
      clear hμ2
      refine lv_aload_n (pc := 81) hx hb d_R_vertex_81 rfl (lv_at hl 1 rfl) ?_
      refine gf_R_59 (pc := 82) X G d_R_vertex_82 ?_
      refine xs_tq hfμ2 ?_
      refine lv_if_le (pc := 85) (tgt := 90) hx hb d_R_vertex_85 (by decide) (fun hc => ?_) (fun hc => ?_)
      · exact absurd hc (by decide)
      · refine lv_iconst (pc := 88) (v := (0 : Int32)) hx hb d_R_vertex_88 (by decide) ?_
        cases hE
        exact xs_iret (pc := 89) hx hb hr hlk G d_R_vertex_89
  · have hE := xs_f hE hc
    refine lv_iload_n (pc := 9) hx hb d_R_vertex_9 rfl (lv_at hl 2 rfl) ?_
    refine lv_bipush (pc := 10) (v := (31 : Int32)) hx hb d_R_vertex_10 (by decide) ?_
    obtain ⟨w3, hw3, hE⟩ := xs_b hE
    refine xs_callSr (pc := 12) (as := [.int (x1), .int ((31 : Int32))]) X (ok_R_within l D ad cs hJ hw3) km_R_74 G ⟨by decide, by decide⟩ ⟨Nat.zero_le _, Nat.zero_le _⟩ rfl hl.1 rfl (Nat.le_of_ble_eq_true rfl) d_R_vertex_12 (fun H locs G => ?_)
    refine lv_if_eq (pc := 15) (tgt := 51) hx hb d_R_vertex_15 (by decide) (fun hc => ?_) (fun hc => ?_)
    · have hE := xs_t hE hc
      refine lv_iconst (pc := 51) (v := (0 : Int32)) hx hb d_R_vertex_51 (by decide) ?_
      refine lv_istore (pc := 52) hx hb d_R_vertex_52 hl (by decide) (lv' := [(6, .int ((0 : Int32))), (0, .ref (ad 154)), (1, .int (x0)), (2, .int (x1)), (3, .int (x2)), (4, .int (x3)), (5, .int (x4))]) rfl (fun ls hl => ?_)
      refine lv_aload_n (pc := 54) hx hb d_R_vertex_54 rfl (lv_at hl 1 rfl) ?_
      refine lv_iload (pc := 55) hx hb d_R_vertex_55 (lv_at hl 0 rfl) ?_
      refine lv_if_ne (pc := 57) (tgt := 64) hx hb d_R_vertex_57 (by decide) (fun hc => ?_) (fun hc => ?_)
      · exact absurd hc (by decide)
      · refine lv_iconst (pc := 60) (v := (1 : Int32)) hx hb d_R_vertex_60 (by decide) ?_
        refine lv_goto (pc := 61) (tgt := 78) hx hb d_R_vertex_61 (by decide) ?_
        refine pf_R_59 (pc := 78) X G d_R_vertex_78 (fun H locs G => ?_)
        obtain ⟨μ4, hμ4, hE⟩ := xs_b hE
        have G := xs_mv G hμ4
        have hfμ4 := xs_fi hμ4
        clear hμ4
        refine lv_aload_n (pc := 81) hx hb d_R_vertex_81 rfl (lv_at hl 1 rfl) ?_
        refine gf_R_59 (pc := 82) X G d_R_vertex_82 ?_
        refine xs_tq hfμ4 ?_
        refine lv_if_le (pc := 85) (tgt := 90) hx hb d_R_vertex_85 (by decide) (fun hc => ?_) (fun hc => ?_)
        · exact absurd hc (by decide)
        · refine lv_iconst (pc := 88) (v := (0 : Int32)) hx hb d_R_vertex_88 (by decide) ?_
          cases hE
          exact xs_iret (pc := 89) hx hb hr hlk G d_R_vertex_89
    · have hE := xs_f hE hc
      refine lv_iload_n (pc := 18) hx hb d_R_vertex_18 rfl (lv_at hl 3 rfl) ?_
      refine lv_bipush (pc := 19) (v := (31 : Int32)) hx hb d_R_vertex_19 (by decide) ?_
      obtain ⟨w5, hw5, hE⟩ := xs_b hE
      refine xs_callSr (pc := 21) (as := [.int (x2), .int ((31 : Int32))]) X (ok_R_within l D ad cs hJ hw5) km_R_74 G ⟨by decide, by decide⟩ ⟨Nat.zero_le _, Nat.zero_le _⟩ rfl hl.1 rfl (Nat.le_of_ble_eq_true rfl) d_R_vertex_21 (fun H locs G => ?_)
      refine lv_if_eq (pc := 24) (tgt := 51) hx hb d_R_vertex_24 (by decide) (fun hc => ?_) (fun hc => ?_)
      · have hE := xs_t hE hc
        refine lv_iconst (pc := 51) (v := (0 : Int32)) hx hb d_R_vertex_51 (by decide) ?_
        refine lv_istore (pc := 52) hx hb d_R_vertex_52 hl (by decide) (lv' := [(6, .int ((0 : Int32))), (0, .ref (ad 154)), (1, .int (x0)), (2, .int (x1)), (3, .int (x2)), (4, .int (x3)), (5, .int (x4))]) rfl (fun ls hl => ?_)
        refine lv_aload_n (pc := 54) hx hb d_R_vertex_54 rfl (lv_at hl 1 rfl) ?_
        refine lv_iload (pc := 55) hx hb d_R_vertex_55 (lv_at hl 0 rfl) ?_
        refine lv_if_ne (pc := 57) (tgt := 64) hx hb d_R_vertex_57 (by decide) (fun hc => ?_) (fun hc => ?_)
        · exact absurd hc (by decide)
        · refine lv_iconst (pc := 60) (v := (1 : Int32)) hx hb d_R_vertex_60 (by decide) ?_
          refine lv_goto (pc := 61) (tgt := 78) hx hb d_R_vertex_61 (by decide) ?_
          refine pf_R_59 (pc := 78) X G d_R_vertex_78 (fun H locs G => ?_)
          obtain ⟨μ6, hμ6, hE⟩ := xs_b hE
          have G := xs_mv G hμ6
          have hfμ6 := xs_fi hμ6
          clear hμ6
          refine lv_aload_n (pc := 81) hx hb d_R_vertex_81 rfl (lv_at hl 1 rfl) ?_
          refine gf_R_59 (pc := 82) X G d_R_vertex_82 ?_
          refine xs_tq hfμ6 ?_
          refine lv_if_le (pc := 85) (tgt := 90) hx hb d_R_vertex_85 (by decide) (fun hc => ?_) (fun hc => ?_)
          · exact absurd hc (by decide)
          · refine lv_iconst (pc := 88) (v := (0 : Int32)) hx hb d_R_vertex_88 (by decide) ?_
            cases hE
            exact xs_iret (pc := 89) hx hb hr hlk G d_R_vertex_89
      · have hE := xs_f hE hc
        refine lv_iload (pc := 27) hx hb d_R_vertex_27 (lv_at hl 4 rfl) ?_
        refine lv_bipush (pc := 29) (v := (127 : Int32)) hx hb d_R_vertex_29 (by decide) ?_
        obtain ⟨w7, hw7, hE⟩ := xs_b hE
        refine xs_callSr (pc := 31) (as := [.int (x3), .int ((127 : Int32))]) X (ok_R_within l D ad cs hJ hw7) km_R_74 G ⟨by decide, by decide⟩ ⟨Nat.zero_le _, Nat.zero_le _⟩ rfl hl.1 rfl (Nat.le_of_ble_eq_true rfl) d_R_vertex_31 (fun H locs G => ?_)
        refine lv_if_eq (pc := 34) (tgt := 51) hx hb d_R_vertex_34 (by decide) (fun hc => ?_) (fun hc => ?_)
        · have hE := xs_t hE hc
          refine lv_iconst (pc := 51) (v := (0 : Int32)) hx hb d_R_vertex_51 (by decide) ?_
          refine lv_istore (pc := 52) hx hb d_R_vertex_52 hl (by decide) (lv' := [(6, .int ((0 : Int32))), (0, .ref (ad 154)), (1, .int (x0)), (2, .int (x1)), (3, .int (x2)), (4, .int (x3)), (5, .int (x4))]) rfl (fun ls hl => ?_)
          refine lv_aload_n (pc := 54) hx hb d_R_vertex_54 rfl (lv_at hl 1 rfl) ?_
          refine lv_iload (pc := 55) hx hb d_R_vertex_55 (lv_at hl 0 rfl) ?_
          refine lv_if_ne (pc := 57) (tgt := 64) hx hb d_R_vertex_57 (by decide) (fun hc => ?_) (fun hc => ?_)
          · exact absurd hc (by decide)
          · refine lv_iconst (pc := 60) (v := (1 : Int32)) hx hb d_R_vertex_60 (by decide) ?_
            refine lv_goto (pc := 61) (tgt := 78) hx hb d_R_vertex_61 (by decide) ?_
            refine pf_R_59 (pc := 78) X G d_R_vertex_78 (fun H locs G => ?_)
            obtain ⟨μ8, hμ8, hE⟩ := xs_b hE
            have G := xs_mv G hμ8
            have hfμ8 := xs_fi hμ8
            clear hμ8
            refine lv_aload_n (pc := 81) hx hb d_R_vertex_81 rfl (lv_at hl 1 rfl) ?_
            refine gf_R_59 (pc := 82) X G d_R_vertex_82 ?_
            refine xs_tq hfμ8 ?_
            refine lv_if_le (pc := 85) (tgt := 90) hx hb d_R_vertex_85 (by decide) (fun hc => ?_) (fun hc => ?_)
            · exact absurd hc (by decide)
            · refine lv_iconst (pc := 88) (v := (0 : Int32)) hx hb d_R_vertex_88 (by decide) ?_
              cases hE
              exact xs_iret (pc := 89) hx hb hr hlk G d_R_vertex_89
        · have hE := xs_f hE hc
          refine lv_iload (pc := 37) hx hb d_R_vertex_37 (lv_at hl 5 rfl) ?_
          refine lv_bipush (pc := 39) (v := (127 : Int32)) hx hb d_R_vertex_39 (by decide) ?_
          obtain ⟨w9, hw9, hE⟩ := xs_b hE
          refine xs_callSr (pc := 41) (as := [.int (x4), .int ((127 : Int32))]) X (ok_R_within l D ad cs hJ hw9) km_R_74 G ⟨by decide, by decide⟩ ⟨Nat.zero_le _, Nat.zero_le _⟩ rfl hl.1 rfl (Nat.le_of_ble_eq_true rfl) d_R_vertex_41 (fun H locs G => ?_)
          refine lv_if_eq (pc := 44) (tgt := 51) hx hb d_R_vertex_44 (by decide) (fun hc => ?_) (fun hc => ?_)
          · have hE := xs_t hE hc
            refine lv_iconst (pc := 51) (v := (0 : Int32)) hx hb d_R_vertex_51 (by decide) ?_
            refine lv_istore (pc := 52) hx hb d_R_vertex_52 hl (by decide) (lv' := [(6, .int ((0 : Int32))), (0, .ref (ad 154)), (1, .int (x0)), (2, .int (x1)), (3, .int (x2)), (4, .int (x3)), (5, .int (x4))]) rfl (fun ls hl => ?_)
            refine lv_aload_n (pc := 54) hx hb d_R_vertex_54 rfl (lv_at hl 1 rfl) ?_
            refine lv_iload (pc := 55) hx hb d_R_vertex_55 (lv_at hl 0 rfl) ?_
            refine lv_if_ne (pc := 57) (tgt := 64) hx hb d_R_vertex_57 (by decide) (fun hc => ?_) (fun hc => ?_)
            · exact absurd hc (by decide)
            · refine lv_iconst (pc := 60) (v := (1 : Int32)) hx hb d_R_vertex_60 (by decide) ?_
              refine lv_goto (pc := 61) (tgt := 78) hx hb d_R_vertex_61 (by decide) ?_
              refine pf_R_59 (pc := 78) X G d_R_vertex_78 (fun H locs G => ?_)
              obtain ⟨μ10, hμ10, hE⟩ := xs_b hE
              have G := xs_mv G hμ10
              have hfμ10 := xs_fi hμ10
              clear hμ10
              refine lv_aload_n (pc := 81) hx hb d_R_vertex_81 rfl (lv_at hl 1 rfl) ?_
              refine gf_R_59 (pc := 82) X G d_R_vertex_82 ?_
              refine xs_tq hfμ10 ?_
              refine lv_if_le (pc := 85) (tgt := 90) hx hb d_R_vertex_85 (by decide) (fun hc => ?_) (fun hc => ?_)
              · exact absurd hc (by decide)
              · refine lv_iconst (pc := 88) (v := (0 : Int32)) hx hb d_R_vertex_88 (by decide) ?_
                cases hE
                exact xs_iret (pc := 89) hx hb hr hlk G d_R_vertex_89
          · have hE := xs_f hE hc
            refine lv_iconst (pc := 47) (v := (1 : Int32)) hx hb d_R_vertex_47 (by decide) ?_
            refine lv_goto (pc := 48) (tgt := 52) hx hb d_R_vertex_48 (by decide) ?_
            refine lv_istore (pc := 52) hx hb d_R_vertex_52 hl (by decide) (lv' := [(6, .int ((1 : Int32))), (0, .ref (ad 154)), (1, .int (x0)), (2, .int (x1)), (3, .int (x2)), (4, .int (x3)), (5, .int (x4))]) rfl (fun ls hl => ?_)
            refine lv_aload_n (pc := 54) hx hb d_R_vertex_54 rfl (lv_at hl 1 rfl) ?_
            refine lv_iload (pc := 55) hx hb d_R_vertex_55 (lv_at hl 0 rfl) ?_
            refine lv_if_ne (pc := 57) (tgt := 64) hx hb d_R_vertex_57 (by decide) (fun hc => ?_) (fun hc => ?_)
            · refine lv_aload_n (pc := 64) hx hb d_R_vertex_64 rfl (lv_at hl 1 rfl) ?_
              refine gf_R_78 (pc := 65) X G d_R_vertex_65 ?_
              refine lv_bipush (pc := 68) (v := (60 : Int32)) hx hb d_R_vertex_68 (by decide) ?_
              refine lv_icmp_ne (pc := 70) (tgt := 77) hx hb d_R_vertex_70 (by decide) (fun hc => ?_) (fun hc => ?_)
              · have hE := xs_f hE hc
                refine lv_iconst (pc := 77) (v := (0 : Int32)) hx hb d_R_vertex_77 (by decide) ?_
                refine pf_R_59 (pc := 78) X G d_R_vertex_78 (fun H locs G => ?_)
                obtain ⟨μ11, hμ11, hE⟩ := xs_b hE
                have G := xs_mv G hμ11
                have hfμ11 := xs_fi hμ11
                clear hμ11
                refine lv_aload_n (pc := 81) hx hb d_R_vertex_81 rfl (lv_at hl 1 rfl) ?_
                refine gf_R_59 (pc := 82) X G d_R_vertex_82 ?_
                refine xs_tq hfμ11 ?_
                refine lv_if_le (pc := 85) (tgt := 90) hx hb d_R_vertex_85 (by decide) (fun hc => ?_) (fun hc => ?_)
                · refine lv_aload_n (pc := 90) hx hb d_R_vertex_90 rfl (lv_at hl 1 rfl) ?_
                  refine lv_iconst (pc := 91) (v := (3 : Int32)) hx hb d_R_vertex_91 (by decide) ?_
                  refine lv_iload_n (pc := 92) hx hb d_R_vertex_92 rfl (lv_at hl 2 rfl) ?_
                  refine lv_iload_n (pc := 93) hx hb d_R_vertex_93 rfl (lv_at hl 3 rfl) ?_
                  refine lv_iload_n (pc := 94) hx hb d_R_vertex_94 rfl (lv_at hl 4 rfl) ?_
                  obtain ⟨w12, hw12, hE⟩ := xs_b hE
                  refine xs_callVr (pc := 95) (as := [.int ((3 : Int32)), .int (x0), .int (x1), .int (x2)]) X (ok_R_line l D ad cs hJ hw12) km_R_81 G (xs_wR ad cs _) rfl ⟨by decide, by decide⟩ ⟨Nat.zero_le _, Nat.zero_le _⟩ rfl hl.1 rfl (Nat.le_of_ble_eq_true rfl) d_R_vertex_95 (fun H locs G => ?_)
                  refine lv_istore (pc := 98) hx hb d_R_vertex_98 hl (by decide) (lv' := [(7, .int (w12)), (6, .int ((1 : Int32))), (0, .ref (ad 154)), (1, .int (x0)), (2, .int (x1)), (3, .int (x2)), (4, .int (x3)), (5, .int (x4))]) rfl (fun ls hl => ?_)
                  refine lv_aload_n (pc := 100) hx hb d_R_vertex_100 rfl (lv_at hl 2 rfl) ?_
                  refine gf_R_22 (pc := 101) X G d_R_vertex_101 ?_
                  refine lv_bipush (pc := 104) (v := (6 : Int32)) hx hb d_R_vertex_104 (by decide) ?_
                  refine lv_aload_n (pc := 106) hx hb d_R_vertex_106 rfl (lv_at hl 2 rfl) ?_
                  refine gf_R_78 (pc := 107) X G d_R_vertex_107 ?_
                  refine lv_imul (pc := 110) hx hb d_R_vertex_110 ?_
                  refine lv_bipush (pc := 111) (v := (16 : Int32)) hx hb d_R_vertex_111 (by decide) ?_
                  refine lv_aload_n (pc := 113) hx hb d_R_vertex_113 rfl (lv_at hl 2 rfl) ?_
                  refine lv_iconst (pc := 114) (v := (0 : Int32)) hx hb d_R_vertex_114 (by decide) ?_
                  refine lv_iload_n (pc := 115) hx hb d_R_vertex_115 rfl (lv_at hl 3 rfl) ?_
                  refine lv_iload_n (pc := 116) hx hb d_R_vertex_116 rfl (lv_at hl 4 rfl) ?_
                  refine lv_iload_n (pc := 117) hx hb d_R_vertex_117 rfl (lv_at hl 5 rfl) ?_
                  obtain ⟨w13, hw13, hE⟩ := xs_b hE
                  refine xs_callVr (pc := 118) (as := [.int ((0 : Int32)), .int (x0), .int (x1), .int (x2)]) X (ok_R_line l D ad cs hJ hw13) km_R_81 G (xs_wR ad cs _) rfl ⟨by decide, by decide⟩ ⟨Nat.zero_le _, Nat.zero_le _⟩ rfl hl.1 rfl (Nat.le_of_ble_eq_true rfl) d_R_vertex_118 (fun H locs G => ?_)
                  refine lv_iload (pc := 121) hx hb d_R_vertex_121 (lv_at hl 0 rfl) ?_
                  refine lv_iadd (pc := 123) hx hb d_R_vertex_123 ?_
                  refine lv_imul (pc := 124) hx hb d_R_vertex_124 ?_
                  obtain ⟨hi14, hE⟩ := xs_n hE
                  refine xs_iast (pc := 125) hx hb G ia_159 (xs_inP hi14) d_R_vertex_125 (fun H locs G => ?_)
                  obtain ⟨μ15, hμ15, hE⟩ := xs_b hE
                  have G := xs_mv G hμ15
                  clear hμ15
                  refine lv_aload_n (pc := 126) hx hb d_R_vertex_126 rfl (lv_at hl 2 rfl) ?_
                  refine gf_R_22 (pc := 127) X G d_R_vertex_127 ?_
                  refine lv_bipush (pc := 130) (v := (6 : Int32)) hx hb d_R_vertex_130 (by decide) ?_
                  refine lv_aload_n (pc := 132) hx hb d_R_vertex_132 rfl (lv_at hl 2 rfl) ?_
                  refine gf_R_78 (pc := 133) X G d_R_vertex_133 ?_
                  refine lv_imul (pc := 136) hx hb d_R_vertex_136 ?_
                  refine lv_iconst (pc := 137) (v := (1 : Int32)) hx hb d_R_vertex_137 (by decide) ?_
                  refine lv_iadd (pc := 138) hx hb d_R_vertex_138 ?_
                  refine lv_bipush (pc := 139) (v := (12 : Int32)) hx hb d_R_vertex_139 (by decide) ?_
                  refine lv_aload_n (pc := 141) hx hb d_R_vertex_141 rfl (lv_at hl 2 rfl) ?_
                  refine lv_iconst (pc := 142) (v := (1 : Int32)) hx hb d_R_vertex_142 (by decide) ?_
                  refine lv_iload_n (pc := 143) hx hb d_R_vertex_143 rfl (lv_at hl 3 rfl) ?_
                  refine lv_iload_n (pc := 144) hx hb d_R_vertex_144 rfl (lv_at hl 4 rfl) ?_
                  refine lv_iload_n (pc := 145) hx hb d_R_vertex_145 rfl (lv_at hl 5 rfl) ?_
                  obtain ⟨w16, hw16, hE⟩ := xs_b hE
                  refine xs_callVr (pc := 146) (as := [.int ((1 : Int32)), .int (x0), .int (x1), .int (x2)]) X (ok_R_line l D ad cs hJ hw16) km_R_81 G (xs_wR ad cs _) rfl ⟨by decide, by decide⟩ ⟨Nat.zero_le _, Nat.zero_le _⟩ rfl hl.1 rfl (Nat.le_of_ble_eq_true rfl) d_R_vertex_146 (fun H locs G => ?_)
                  refine lv_iload (pc := 149) hx hb d_R_vertex_149 (lv_at hl 0 rfl) ?_
                  refine lv_iadd (pc := 151) hx hb d_R_vertex_151 ?_
                  refine lv_imul (pc := 152) hx hb d_R_vertex_152 ?_
                  obtain ⟨hi17, hE⟩ := xs_n hE
                  refine xs_iast (pc := 153) hx hb G ia_159 (xs_inP hi17) d_R_vertex_153 (fun H locs G => ?_)
                  obtain ⟨μ18, hμ18, hE⟩ := xs_b hE
                  have G := xs_mv G hμ18
                  clear hμ18
                  refine lv_aload_n (pc := 154) hx hb d_R_vertex_154 rfl (lv_at hl 2 rfl) ?_
                  refine gf_R_22 (pc := 155) X G d_R_vertex_155 ?_
                  refine lv_bipush (pc := 158) (v := (6 : Int32)) hx hb d_R_vertex_158 (by decide) ?_
                  refine lv_aload_n (pc := 160) hx hb d_R_vertex_160 rfl (lv_at hl 2 rfl) ?_
                  refine gf_R_78 (pc := 161) X G d_R_vertex_161 ?_
                  refine lv_imul (pc := 164) hx hb d_R_vertex_164 ?_
                  refine lv_iconst (pc := 165) (v := (2 : Int32)) hx hb d_R_vertex_165 (by decide) ?_
                  refine lv_iadd (pc := 166) hx hb d_R_vertex_166 ?_
                  refine lv_iload (pc := 167) hx hb d_R_vertex_167 (lv_at hl 0 rfl) ?_
                  obtain ⟨hi19, hE⟩ := xs_n hE
                  refine xs_iast (pc := 169) hx hb G ia_159 (xs_inP hi19) d_R_vertex_169 (fun H locs G => ?_)
                  obtain ⟨μ20, hμ20, hE⟩ := xs_b hE
                  have G := xs_mv G hμ20
                  clear hμ20
                  refine lv_aload_n (pc := 170) hx hb d_R_vertex_170 rfl (lv_at hl 2 rfl) ?_
                  refine gf_R_22 (pc := 171) X G d_R_vertex_171 ?_
                  refine lv_bipush (pc := 174) (v := (6 : Int32)) hx hb d_R_vertex_174 (by decide) ?_
                  refine lv_aload_n (pc := 176) hx hb d_R_vertex_176 rfl (lv_at hl 2 rfl) ?_
                  refine gf_R_78 (pc := 177) X G d_R_vertex_177 ?_
                  refine lv_imul (pc := 180) hx hb d_R_vertex_180 ?_
                  refine lv_iconst (pc := 181) (v := (3 : Int32)) hx hb d_R_vertex_181 (by decide) ?_
                  refine lv_iadd (pc := 182) hx hb d_R_vertex_182 ?_
                  refine lv_aload_n (pc := 183) hx hb d_R_vertex_183 rfl (lv_at hl 2 rfl) ?_
                  refine lv_iconst (pc := 184) (v := (2 : Int32)) hx hb d_R_vertex_184 (by decide) ?_
                  refine lv_iload_n (pc := 185) hx hb d_R_vertex_185 rfl (lv_at hl 3 rfl) ?_
                  refine lv_iload_n (pc := 186) hx hb d_R_vertex_186 rfl (lv_at hl 4 rfl) ?_
                  refine lv_iload_n (pc := 187) hx hb d_R_vertex_187 rfl (lv_at hl 5 rfl) ?_
                  obtain ⟨w21, hw21, hE⟩ := xs_b hE
                  refine xs_callVr (pc := 188) (as := [.int ((2 : Int32)), .int (x0), .int (x1), .int (x2)]) X (ok_R_line l D ad cs hJ hw21) km_R_81 G (xs_wR ad cs _) rfl ⟨by decide, by decide⟩ ⟨Nat.zero_le _, Nat.zero_le _⟩ rfl hl.1 rfl (Nat.le_of_ble_eq_true rfl) d_R_vertex_188 (fun H locs G => ?_)
                  obtain ⟨hi22, hE⟩ := xs_n hE
                  refine xs_iast (pc := 191) hx hb G ia_159 (xs_inP hi22) d_R_vertex_191 (fun H locs G => ?_)
                  obtain ⟨μ23, hμ23, hE⟩ := xs_b hE
                  have G := xs_mv G hμ23
                  clear hμ23
                  refine lv_aload_n (pc := 192) hx hb d_R_vertex_192 rfl (lv_at hl 2 rfl) ?_
                  refine gf_R_22 (pc := 193) X G d_R_vertex_193 ?_
                  refine lv_bipush (pc := 196) (v := (6 : Int32)) hx hb d_R_vertex_196 (by decide) ?_
                  refine lv_aload_n (pc := 198) hx hb d_R_vertex_198 rfl (lv_at hl 2 rfl) ?_
                  refine gf_R_78 (pc := 199) X G d_R_vertex_199 ?_
                  refine lv_imul (pc := 202) hx hb d_R_vertex_202 ?_
                  refine lv_iconst (pc := 203) (v := (4 : Int32)) hx hb d_R_vertex_203 (by decide) ?_
                  refine lv_iadd (pc := 204) hx hb d_R_vertex_204 ?_
                  refine lv_iload (pc := 205) hx hb d_R_vertex_205 (lv_at hl 6 rfl) ?_
                  obtain ⟨hi24, hE⟩ := xs_n hE
                  refine xs_iast (pc := 207) hx hb G ia_159 (xs_inP hi24) d_R_vertex_207 (fun H locs G => ?_)
                  obtain ⟨μ25, hμ25, hE⟩ := xs_b hE
                  have G := xs_mv G hμ25
                  clear hμ25
                  refine lv_aload_n (pc := 208) hx hb d_R_vertex_208 rfl (lv_at hl 2 rfl) ?_
                  refine gf_R_22 (pc := 209) X G d_R_vertex_209 ?_
                  refine lv_bipush (pc := 212) (v := (6 : Int32)) hx hb d_R_vertex_212 (by decide) ?_
                  refine lv_aload_n (pc := 214) hx hb d_R_vertex_214 rfl (lv_at hl 2 rfl) ?_
                  refine gf_R_78 (pc := 215) X G d_R_vertex_215 ?_
                  refine lv_imul (pc := 218) hx hb d_R_vertex_218 ?_
                  refine lv_iconst (pc := 219) (v := (5 : Int32)) hx hb d_R_vertex_219 (by decide) ?_
                  refine lv_iadd (pc := 220) hx hb d_R_vertex_220 ?_
                  refine lv_iload (pc := 221) hx hb d_R_vertex_221 (lv_at hl 7 rfl) ?_
                  obtain ⟨hi26, hE⟩ := xs_n hE
                  refine xs_iast (pc := 223) hx hb G ia_159 (xs_inP hi26) d_R_vertex_223 (fun H locs G => ?_)
                  obtain ⟨μ27, hμ27, hE⟩ := xs_b hE
                  have G := xs_mv G hμ27
                  clear hμ27
                  refine lv_aload_n (pc := 224) hx hb d_R_vertex_224 rfl (lv_at hl 2 rfl) ?_
                  refine lv_dup (pc := 225) hx hb d_R_vertex_225 rfl ?_
                  refine gf_R_78 (pc := 226) X G d_R_vertex_226 ?_
                  refine lv_iconst (pc := 229) (v := (1 : Int32)) hx hb d_R_vertex_229 (by decide) ?_
                  refine lv_iadd (pc := 230) hx hb d_R_vertex_230 ?_
                  refine pf_R_78 (pc := 231) X G d_R_vertex_231 (fun H locs G => ?_)
                  obtain ⟨μ28, hμ28, hE⟩ := xs_b hE
                  have G := xs_mv G hμ28
                  clear hμ28
                  refine lv_aload_n (pc := 234) hx hb d_R_vertex_234 rfl (lv_at hl 2 rfl) ?_
                  refine gf_R_78 (pc := 235) X G d_R_vertex_235 ?_
                  refine lv_iconst (pc := 238) (v := (3 : Int32)) hx hb d_R_vertex_238 (by decide) ?_
                  refine lv_irem (pc := 239) hx hb d_R_vertex_239 (by decide) ?_
                  refine lv_if_ne (pc := 240) (tgt := 294) hx hb d_R_vertex_240 (by decide) (fun hc => ?_) (fun hc => ?_)
                  · have hE := xs_f hE hc
                    refine lv_aload_n (pc := 294) hx hb d_R_vertex_294 rfl (lv_at hl 2 rfl) ?_
                    refine gf_R_78 (pc := 295) X G d_R_vertex_295 ?_
                    refine lv_iconst (pc := 298) (v := (3 : Int32)) hx hb d_R_vertex_298 (by decide) ?_
                    refine lv_idiv (pc := 299) hx hb d_R_vertex_299 (by decide) ?_
                    cases hE
                    exact xs_iret (pc := 300) hx hb hr hlk G d_R_vertex_300
                  · have hE := xs_t hE hc
                    refine lv_aload_n (pc := 243) hx hb d_R_vertex_243 rfl (lv_at hl 2 rfl) ?_
                    refine gf_R_25 (pc := 244) X G d_R_vertex_244 ?_
                    refine lv_aload_n (pc := 247) hx hb d_R_vertex_247 rfl (lv_at hl 2 rfl) ?_
                    refine gf_R_78 (pc := 248) X G d_R_vertex_248 ?_
                    refine lv_iconst (pc := 251) (v := (3 : Int32)) hx hb d_R_vertex_251 (by decide) ?_
                    refine lv_idiv (pc := 252) hx hb d_R_vertex_252 (by decide) ?_
                    refine lv_iconst (pc := 253) (v := (1 : Int32)) hx hb d_R_vertex_253 (by decide) ?_
                    refine lv_isub (pc := 254) hx hb d_R_vertex_254 ?_
                    refine lv_aload_n (pc := 255) hx hb d_R_vertex_255 rfl (lv_at hl 2 rfl) ?_
                    refine gf_R_85 (pc := 256) X G d_R_vertex_256 ?_
                    obtain ⟨hi29, hE⟩ := xs_n hE
                    refine xs_iast (pc := 259) hx hb G ia_160 (xs_inP hi29) d_R_vertex_259 (fun H locs G => ?_)
                    obtain ⟨μ30, hμ30, hE⟩ := xs_b hE
                    have G := xs_mv G hμ30
                    clear hμ30
                    refine lv_aload_n (pc := 260) hx hb d_R_vertex_260 rfl (lv_at hl 2 rfl) ?_
                    refine gf_R_28 (pc := 261) X G d_R_vertex_261 ?_
                    refine lv_aload_n (pc := 264) hx hb d_R_vertex_264 rfl (lv_at hl 2 rfl) ?_
                    refine gf_R_78 (pc := 265) X G d_R_vertex_265 ?_
                    refine lv_iconst (pc := 268) (v := (3 : Int32)) hx hb d_R_vertex_268 (by decide) ?_
                    refine lv_idiv (pc := 269) hx hb d_R_vertex_269 (by decide) ?_
                    refine lv_iconst (pc := 270) (v := (1 : Int32)) hx hb d_R_vertex_270 (by decide) ?_
                    refine lv_isub (pc := 271) hx hb d_R_vertex_271 ?_
                    refine lv_aload_n (pc := 272) hx hb d_R_vertex_272 rfl (lv_at hl 2 rfl) ?_
                    refine gf_R_88 (pc := 273) X G d_R_vertex_273 ?_
                    obtain ⟨hi31, hE⟩ := xs_n hE
                    refine xs_iast (pc := 276) hx hb G ia_161 (xs_inP hi31) d_R_vertex_276 (fun H locs G => ?_)
                    obtain ⟨μ32, hμ32, hE⟩ := xs_b hE
                    have G := xs_mv G hμ32
                    clear hμ32
                    refine lv_aload_n (pc := 277) hx hb d_R_vertex_277 rfl (lv_at hl 2 rfl) ?_
                    refine gf_R_31 (pc := 278) X G d_R_vertex_278 ?_
                    refine lv_aload_n (pc := 281) hx hb d_R_vertex_281 rfl (lv_at hl 2 rfl) ?_
                    refine gf_R_78 (pc := 282) X G d_R_vertex_282 ?_
                    refine lv_iconst (pc := 285) (v := (3 : Int32)) hx hb d_R_vertex_285 (by decide) ?_
                    refine lv_idiv (pc := 286) hx hb d_R_vertex_286 (by decide) ?_
                    refine lv_iconst (pc := 287) (v := (1 : Int32)) hx hb d_R_vertex_287 (by decide) ?_
                    refine lv_isub (pc := 288) hx hb d_R_vertex_288 ?_
                    refine lv_aload_n (pc := 289) hx hb d_R_vertex_289 rfl (lv_at hl 2 rfl) ?_
                    refine gf_R_91 (pc := 290) X G d_R_vertex_290 ?_
                    obtain ⟨hi33, hE⟩ := xs_n hE
                    refine xs_iast (pc := 293) hx hb G ia_162 (xs_inP hi33) d_R_vertex_293 (fun H locs G => ?_)
                    obtain ⟨μ34, hμ34, hE⟩ := xs_b hE
                    have G := xs_mv G hμ34
                    clear hμ34
                    refine lv_aload_n (pc := 294) hx hb d_R_vertex_294 rfl (lv_at hl 2 rfl) ?_
                    refine gf_R_78 (pc := 295) X G d_R_vertex_295 ?_
                    refine lv_iconst (pc := 298) (v := (3 : Int32)) hx hb d_R_vertex_298 (by decide) ?_
                    refine lv_idiv (pc := 299) hx hb d_R_vertex_299 (by decide) ?_
                    cases hE
                    exact xs_iret (pc := 300) hx hb hr hlk G d_R_vertex_300
                · exact absurd hc (by decide)
              · have hE := xs_t hE hc
                refine lv_iconst (pc := 73) (v := (2 : Int32)) hx hb d_R_vertex_73 (by decide) ?_
                refine lv_goto (pc := 74) (tgt := 78) hx hb d_R_vertex_74 (by decide) ?_
                refine pf_R_59 (pc := 78) X G d_R_vertex_78 (fun H locs G => ?_)
                obtain ⟨μ35, hμ35, hE⟩ := xs_b hE
                have G := xs_mv G hμ35
                have hfμ35 := xs_fi hμ35
                clear hμ35
                refine lv_aload_n (pc := 81) hx hb d_R_vertex_81 rfl (lv_at hl 1 rfl) ?_
                refine gf_R_59 (pc := 82) X G d_R_vertex_82 ?_
                refine xs_tq hfμ35 ?_
                refine lv_if_le (pc := 85) (tgt := 90) hx hb d_R_vertex_85 (by decide) (fun hc => ?_) (fun hc => ?_)
                · exact absurd hc (by decide)
                · refine lv_iconst (pc := 88) (v := (0 : Int32)) hx hb d_R_vertex_88 (by decide) ?_
                  cases hE
                  exact xs_iret (pc := 89) hx hb hr hlk G d_R_vertex_89
            · exact absurd hc (by decide)
def fn_R_prepare_L2 : Nat → xs_M → Int32 → Int32 →  Option (Int32 × xs_M)
  | 0, _, _, _ => none
  | fu + 1, μ, v1, v2 => (if (3 : Int32) ≤ v2 then some ((v2, μ)) else ((some ((v2 + (1 : Int32)) - (v2 + (1 : Int32)) / (3 : Int32) * (3 : Int32))).bind fun a1 => ((some ((v2 + (2 : Int32)) - (v2 + (2 : Int32)) / (3 : Int32) * (3 : Int32))).bind fun a2 => ((fn_R_placeOf μ v1 a1 (1 : Int32)).bind fun w3 => ((fn_R_placeOf μ v1 a2 (2 : Int32)).bind fun w4 => ((fn_R_placeOf μ v1 a1 (2 : Int32)).bind fun w5 => ((fn_R_placeOf μ v1 a2 (1 : Int32)).bind fun w6 => (if xs_in v2 3 = true then ((some (xs_sl μ 163 v2.toNatClampNeg ((w3 * w4) - (w5 * w6)))).bind fun μ8 => ((fn_R_placeOf μ8 v1 a1 (2 : Int32)).bind fun w9 => ((fn_R_placeOf μ8 v1 a2 (0 : Int32)).bind fun w10 => ((fn_R_placeOf μ8 v1 a1 (0 : Int32)).bind fun w11 => ((fn_R_placeOf μ8 v1 a2 (2 : Int32)).bind fun w12 => (if xs_in v2 3 = true then ((some (xs_sl μ8 164 v2.toNatClampNeg ((w9 * w10) - (w11 * w12)))).bind fun μ14 => ((fn_R_placeOf μ14 v1 a1 (0 : Int32)).bind fun w15 => ((fn_R_placeOf μ14 v1 a2 (1 : Int32)).bind fun w16 => ((fn_R_placeOf μ14 v1 a1 (1 : Int32)).bind fun w17 => ((fn_R_placeOf μ14 v1 a2 (0 : Int32)).bind fun w18 => (if xs_in v2 3 = true then ((some (xs_sl μ14 165 v2.toNatClampNeg ((w15 * w16) - (w17 * w18)))).bind fun μ20 => fn_R_prepare_L2 fu μ20 v1 (v2 + 1)) else none)))))) else none)))))) else none))))))))
def fn_R_prepare (μ0 : xs_M) (x0 : Int32) : Option xs_M :=
  ((fn_R_prepare_L2 xs_FU μ0 x0 (0 : Int32)).bind fun z21 => ((fn_R_placeOf z21.2 x0 (0 : Int32) (0 : Int32)).bind fun w22 => ((fn_R_placeOf z21.2 x0 (0 : Int32) (1 : Int32)).bind fun w23 => ((fn_R_placeOf z21.2 x0 (0 : Int32) (2 : Int32)).bind fun w24 => ((some (xs_sl z21.2 154 14 (((w22 * (z21.2.2 163 (0 : Int32).toNatClampNeg)) + (w23 * (z21.2.2 164 (0 : Int32).toNatClampNeg))) + (w24 * (z21.2.2 165 (0 : Int32).toNatClampNeg))))).bind fun μ25 => some (μ25))))))
set_option maxHeartbeats 4000000 in
set_option maxRecDepth 100000 in
theorem ok_R_prepare (l : Launch) (D : va_G) (ad : Nat → Nat) (cs : xs_cs) (hJ : xs_J ad) {μ0 : xs_M} {x0 : Int32}  {rz : xs_M} (hE : fn_R_prepare μ0 x0 = some rz) : xs_I l D ad cs y_R_prepare b_R_prepare 5 none 1 23 [.ref (ad 154), .int (x0)] μ0 none rz := by
  refine xs_entry hJ (by decide) (Nat.le_of_ble_eq_true rfl) ?_
  intro p e s m below meth c ls X hr hlk G hl
  have X : xs_C p s m c b_R_prepare 5 _ "ExactSceneModel" := X
  have hx := X.1
  have hb := X.2.1
  have hl : lv_has ls 5 [(0, .ref (ad 154)), (1, .int (x0))] := hl
  have L2 : ∀ (fu : Nat) (μ : xs_M) (v1 : Int32) (v2 : Int32) (H : Heap) (locs : List Loc) (ls : Array Slot) (z : (Int32 × xs_M)), fn_R_prepare_L2 fu μ v1 v2 = some z → xs_G D ad cs s (xs_A ad s.heap.size) s.heap μ H locs → lv_has ls 5 [(0, .ref (ad 154)), (1, .int (v1)), (2, .int (v2))] → (∀ (H : Heap) (locs : List Loc) (ls : Array Slot), xs_G D ad cs s (xs_A ad s.heap.size) s.heap z.2 H locs → lv_has ls 5 [(0, .ref (ad 154)), (1, .int (v1)), (2, .int (z.1))] → W p l e (xs_rm 1 23) s m ([.ref (ad 154), .int (x0)] : List Value).toArray below meth c H locs 0 0 (xs_E below D ad cs [.ref (ad 154), .int (x0)] s none rz) (F0 m 143 ls [])) → W p l e (xs_rm 1 23) s m ([.ref (ad 154), .int (x0)] : List Value).toArray below meth c H locs 0 0 (xs_E below D ad cs [.ref (ad 154), .int (x0)] s none rz) (F0 m 2 ls []) := by
    clear hE hl G
    intro fu
    induction fu with
    | zero =>
      intro μ v1 v2 H locs ls z hE
      rw [fn_R_prepare_L2] at hE
      cases hE
    | succ fu ih =>
      intro μ v1 v2 H locs ls z hE G hl kk
      rw [fn_R_prepare_L2] at hE
      refine lv_iload_n (pc := 2) hx hb d_R_prepare_2 rfl (lv_at hl 2 rfl) ?_
      refine lv_iconst (pc := 3) (v := (3 : Int32)) hx hb d_R_prepare_3 (by decide) ?_
      refine lv_icmp_ge (pc := 4) (tgt := 143) hx hb d_R_prepare_4 (by decide) (fun hc => ?_) (fun hc => ?_)
      · have hE := xs_t hE hc
        cases hE
        exact kk _ _ _ G (lv_sub hl [0, 1, 2] rfl)
      · have hE := xs_f hE hc
        refine lv_iload_n (pc := 7) hx hb d_R_prepare_7 rfl (lv_at hl 2 rfl) ?_
        refine lv_iconst (pc := 8) (v := (1 : Int32)) hx hb d_R_prepare_8 (by decide) ?_
        refine lv_iadd (pc := 9) hx hb d_R_prepare_9 ?_
        refine lv_iconst (pc := 10) (v := (3 : Int32)) hx hb d_R_prepare_10 (by decide) ?_
        refine lv_irem (pc := 11) hx hb d_R_prepare_11 (by decide) ?_
        obtain ⟨a1, ha1, hE⟩ := xs_b hE
        refine xs_ti ha1 ?_
        clear ha1
        refine lv_istore_n (pc := 12) hx hb d_R_prepare_12 rfl hl (by decide) (lv' := [(3, .int (a1)), (0, .ref (ad 154)), (1, .int (v1)), (2, .int (v2))]) rfl (fun ls hl => ?_)
        refine lv_iload_n (pc := 13) hx hb d_R_prepare_13 rfl (lv_at hl 3 rfl) ?_
        refine lv_iconst (pc := 14) (v := (2 : Int32)) hx hb d_R_prepare_14 (by decide) ?_
        refine lv_iadd (pc := 15) hx hb d_R_prepare_15 ?_
        refine lv_iconst (pc := 16) (v := (3 : Int32)) hx hb d_R_prepare_16 (by decide) ?_
        refine lv_irem (pc := 17) hx hb d_R_prepare_17 (by decide) ?_
        obtain ⟨a2, ha2, hE⟩ := xs_b hE
        refine xs_ti ha2 ?_
        clear ha2
        refine lv_istore (pc := 18) hx hb d_R_prepare_18 hl (by decide) (lv' := [(4, .int (a2)), (3, .int (a1)), (0, .ref (ad 154)), (1, .int (v1)), (2, .int (v2))]) rfl (fun ls hl => ?_)
        refine lv_aload_n (pc := 20) hx hb d_R_prepare_20 rfl (lv_at hl 2 rfl) ?_
        refine gf_R_34 (pc := 21) X G d_R_prepare_21 ?_
        refine lv_iload_n (pc := 24) hx hb d_R_prepare_24 rfl (lv_at hl 4 rfl) ?_
        refine lv_aload_n (pc := 25) hx hb d_R_prepare_25 rfl (lv_at hl 2 rfl) ?_
        refine lv_iload_n (pc := 26) hx hb d_R_prepare_26 rfl (lv_at hl 3 rfl) ?_
        refine lv_iload_n (pc := 27) hx hb d_R_prepare_27 rfl (lv_at hl 1 rfl) ?_
        refine lv_iconst (pc := 28) (v := (1 : Int32)) hx hb d_R_prepare_28 (by decide) ?_
        obtain ⟨w3, hw3, hE⟩ := xs_b hE
        refine xs_callVr (pc := 29) (as := [.int (v1), .int (a1), .int ((1 : Int32))]) X (ok_R_placeOf l D ad cs hJ hw3) km_R_94 G (xs_wR ad cs _) rfl ⟨by decide, by decide⟩ ⟨Nat.zero_le _, Nat.zero_le _⟩ rfl hl.1 rfl (Nat.le_of_ble_eq_true rfl) d_R_prepare_29 (fun H locs G => ?_)
        refine lv_aload_n (pc := 32) hx hb d_R_prepare_32 rfl (lv_at hl 2 rfl) ?_
        refine lv_iload_n (pc := 33) hx hb d_R_prepare_33 rfl (lv_at hl 3 rfl) ?_
        refine lv_iload (pc := 34) hx hb d_R_prepare_34 (lv_at hl 0 rfl) ?_
        refine lv_iconst (pc := 36) (v := (2 : Int32)) hx hb d_R_prepare_36 (by decide) ?_
        obtain ⟨w4, hw4, hE⟩ := xs_b hE
        refine xs_callVr (pc := 37) (as := [.int (v1), .int (a2), .int ((2 : Int32))]) X (ok_R_placeOf l D ad cs hJ hw4) km_R_94 G (xs_wR ad cs _) rfl ⟨by decide, by decide⟩ ⟨Nat.zero_le _, Nat.zero_le _⟩ rfl hl.1 rfl (Nat.le_of_ble_eq_true rfl) d_R_prepare_37 (fun H locs G => ?_)
        refine lv_lmul (pc := 40) hx hb d_R_prepare_40 ?_
        refine lv_aload_n (pc := 41) hx hb d_R_prepare_41 rfl (lv_at hl 2 rfl) ?_
        refine lv_iload_n (pc := 42) hx hb d_R_prepare_42 rfl (lv_at hl 3 rfl) ?_
        refine lv_iload_n (pc := 43) hx hb d_R_prepare_43 rfl (lv_at hl 1 rfl) ?_
        refine lv_iconst (pc := 44) (v := (2 : Int32)) hx hb d_R_prepare_44 (by decide) ?_
        obtain ⟨w5, hw5, hE⟩ := xs_b hE
        refine xs_callVr (pc := 45) (as := [.int (v1), .int (a1), .int ((2 : Int32))]) X (ok_R_placeOf l D ad cs hJ hw5) km_R_94 G (xs_wR ad cs _) rfl ⟨by decide, by decide⟩ ⟨Nat.zero_le _, Nat.zero_le _⟩ rfl hl.1 rfl (Nat.le_of_ble_eq_true rfl) d_R_prepare_45 (fun H locs G => ?_)
        refine lv_aload_n (pc := 48) hx hb d_R_prepare_48 rfl (lv_at hl 2 rfl) ?_
        refine lv_iload_n (pc := 49) hx hb d_R_prepare_49 rfl (lv_at hl 3 rfl) ?_
        refine lv_iload (pc := 50) hx hb d_R_prepare_50 (lv_at hl 0 rfl) ?_
        refine lv_iconst (pc := 52) (v := (1 : Int32)) hx hb d_R_prepare_52 (by decide) ?_
        obtain ⟨w6, hw6, hE⟩ := xs_b hE
        refine xs_callVr (pc := 53) (as := [.int (v1), .int (a2), .int ((1 : Int32))]) X (ok_R_placeOf l D ad cs hJ hw6) km_R_94 G (xs_wR ad cs _) rfl ⟨by decide, by decide⟩ ⟨Nat.zero_le _, Nat.zero_le _⟩ rfl hl.1 rfl (Nat.le_of_ble_eq_true rfl) d_R_prepare_53 (fun H locs G => ?_)
        refine lv_lmul (pc := 56) hx hb d_R_prepare_56 ?_
        refine lv_lsub (pc := 57) hx hb d_R_prepare_57 ?_
        obtain ⟨hi7, hE⟩ := xs_n hE
        refine xs_last (pc := 58) hx hb G la_163 (xs_inP hi7) d_R_prepare_58 (fun H locs G => ?_)
        obtain ⟨μ8, hμ8, hE⟩ := xs_b hE
        have G := xs_mv G hμ8
        clear hμ8
        refine lv_aload_n (pc := 59) hx hb d_R_prepare_59 rfl (lv_at hl 2 rfl) ?_
        refine gf_R_38 (pc := 60) X G d_R_prepare_60 ?_
        refine lv_iload_n (pc := 63) hx hb d_R_prepare_63 rfl (lv_at hl 4 rfl) ?_
        refine lv_aload_n (pc := 64) hx hb d_R_prepare_64 rfl (lv_at hl 2 rfl) ?_
        refine lv_iload_n (pc := 65) hx hb d_R_prepare_65 rfl (lv_at hl 3 rfl) ?_
        refine lv_iload_n (pc := 66) hx hb d_R_prepare_66 rfl (lv_at hl 1 rfl) ?_
        refine lv_iconst (pc := 67) (v := (2 : Int32)) hx hb d_R_prepare_67 (by decide) ?_
        obtain ⟨w9, hw9, hE⟩ := xs_b hE
        refine xs_callVr (pc := 68) (as := [.int (v1), .int (a1), .int ((2 : Int32))]) X (ok_R_placeOf l D ad cs hJ hw9) km_R_94 G (xs_wR ad cs _) rfl ⟨by decide, by decide⟩ ⟨Nat.zero_le _, Nat.zero_le _⟩ rfl hl.1 rfl (Nat.le_of_ble_eq_true rfl) d_R_prepare_68 (fun H locs G => ?_)
        refine lv_aload_n (pc := 71) hx hb d_R_prepare_71 rfl (lv_at hl 2 rfl) ?_
        refine lv_iload_n (pc := 72) hx hb d_R_prepare_72 rfl (lv_at hl 3 rfl) ?_
        refine lv_iload (pc := 73) hx hb d_R_prepare_73 (lv_at hl 0 rfl) ?_
        refine lv_iconst (pc := 75) (v := (0 : Int32)) hx hb d_R_prepare_75 (by decide) ?_
        obtain ⟨w10, hw10, hE⟩ := xs_b hE
        refine xs_callVr (pc := 76) (as := [.int (v1), .int (a2), .int ((0 : Int32))]) X (ok_R_placeOf l D ad cs hJ hw10) km_R_94 G (xs_wR ad cs _) rfl ⟨by decide, by decide⟩ ⟨Nat.zero_le _, Nat.zero_le _⟩ rfl hl.1 rfl (Nat.le_of_ble_eq_true rfl) d_R_prepare_76 (fun H locs G => ?_)
        refine lv_lmul (pc := 79) hx hb d_R_prepare_79 ?_
        refine lv_aload_n (pc := 80) hx hb d_R_prepare_80 rfl (lv_at hl 2 rfl) ?_
        refine lv_iload_n (pc := 81) hx hb d_R_prepare_81 rfl (lv_at hl 3 rfl) ?_
        refine lv_iload_n (pc := 82) hx hb d_R_prepare_82 rfl (lv_at hl 1 rfl) ?_
        refine lv_iconst (pc := 83) (v := (0 : Int32)) hx hb d_R_prepare_83 (by decide) ?_
        obtain ⟨w11, hw11, hE⟩ := xs_b hE
        refine xs_callVr (pc := 84) (as := [.int (v1), .int (a1), .int ((0 : Int32))]) X (ok_R_placeOf l D ad cs hJ hw11) km_R_94 G (xs_wR ad cs _) rfl ⟨by decide, by decide⟩ ⟨Nat.zero_le _, Nat.zero_le _⟩ rfl hl.1 rfl (Nat.le_of_ble_eq_true rfl) d_R_prepare_84 (fun H locs G => ?_)
        refine lv_aload_n (pc := 87) hx hb d_R_prepare_87 rfl (lv_at hl 2 rfl) ?_
        refine lv_iload_n (pc := 88) hx hb d_R_prepare_88 rfl (lv_at hl 3 rfl) ?_
        refine lv_iload (pc := 89) hx hb d_R_prepare_89 (lv_at hl 0 rfl) ?_
        refine lv_iconst (pc := 91) (v := (2 : Int32)) hx hb d_R_prepare_91 (by decide) ?_
        obtain ⟨w12, hw12, hE⟩ := xs_b hE
        refine xs_callVr (pc := 92) (as := [.int (v1), .int (a2), .int ((2 : Int32))]) X (ok_R_placeOf l D ad cs hJ hw12) km_R_94 G (xs_wR ad cs _) rfl ⟨by decide, by decide⟩ ⟨Nat.zero_le _, Nat.zero_le _⟩ rfl hl.1 rfl (Nat.le_of_ble_eq_true rfl) d_R_prepare_92 (fun H locs G => ?_)
        refine lv_lmul (pc := 95) hx hb d_R_prepare_95 ?_
        refine lv_lsub (pc := 96) hx hb d_R_prepare_96 ?_
        obtain ⟨hi13, hE⟩ := xs_n hE
        refine xs_last (pc := 97) hx hb G la_164 (xs_inP hi13) d_R_prepare_97 (fun H locs G => ?_)
        obtain ⟨μ14, hμ14, hE⟩ := xs_b hE
        have G := xs_mv G hμ14
        clear hμ14
        refine lv_aload_n (pc := 98) hx hb d_R_prepare_98 rfl (lv_at hl 2 rfl) ?_
        refine gf_R_41 (pc := 99) X G d_R_prepare_99 ?_
        refine lv_iload_n (pc := 102) hx hb d_R_prepare_102 rfl (lv_at hl 4 rfl) ?_
        refine lv_aload_n (pc := 103) hx hb d_R_prepare_103 rfl (lv_at hl 2 rfl) ?_
        refine lv_iload_n (pc := 104) hx hb d_R_prepare_104 rfl (lv_at hl 3 rfl) ?_
        refine lv_iload_n (pc := 105) hx hb d_R_prepare_105 rfl (lv_at hl 1 rfl) ?_
        refine lv_iconst (pc := 106) (v := (0 : Int32)) hx hb d_R_prepare_106 (by decide) ?_
        obtain ⟨w15, hw15, hE⟩ := xs_b hE
        refine xs_callVr (pc := 107) (as := [.int (v1), .int (a1), .int ((0 : Int32))]) X (ok_R_placeOf l D ad cs hJ hw15) km_R_94 G (xs_wR ad cs _) rfl ⟨by decide, by decide⟩ ⟨Nat.zero_le _, Nat.zero_le _⟩ rfl hl.1 rfl (Nat.le_of_ble_eq_true rfl) d_R_prepare_107 (fun H locs G => ?_)
        refine lv_aload_n (pc := 110) hx hb d_R_prepare_110 rfl (lv_at hl 2 rfl) ?_
        refine lv_iload_n (pc := 111) hx hb d_R_prepare_111 rfl (lv_at hl 3 rfl) ?_
        refine lv_iload (pc := 112) hx hb d_R_prepare_112 (lv_at hl 0 rfl) ?_
        refine lv_iconst (pc := 114) (v := (1 : Int32)) hx hb d_R_prepare_114 (by decide) ?_
        obtain ⟨w16, hw16, hE⟩ := xs_b hE
        refine xs_callVr (pc := 115) (as := [.int (v1), .int (a2), .int ((1 : Int32))]) X (ok_R_placeOf l D ad cs hJ hw16) km_R_94 G (xs_wR ad cs _) rfl ⟨by decide, by decide⟩ ⟨Nat.zero_le _, Nat.zero_le _⟩ rfl hl.1 rfl (Nat.le_of_ble_eq_true rfl) d_R_prepare_115 (fun H locs G => ?_)
        refine lv_lmul (pc := 118) hx hb d_R_prepare_118 ?_
        refine lv_aload_n (pc := 119) hx hb d_R_prepare_119 rfl (lv_at hl 2 rfl) ?_
        refine lv_iload_n (pc := 120) hx hb d_R_prepare_120 rfl (lv_at hl 3 rfl) ?_
        refine lv_iload_n (pc := 121) hx hb d_R_prepare_121 rfl (lv_at hl 1 rfl) ?_
        refine lv_iconst (pc := 122) (v := (1 : Int32)) hx hb d_R_prepare_122 (by decide) ?_
        obtain ⟨w17, hw17, hE⟩ := xs_b hE
        refine xs_callVr (pc := 123) (as := [.int (v1), .int (a1), .int ((1 : Int32))]) X (ok_R_placeOf l D ad cs hJ hw17) km_R_94 G (xs_wR ad cs _) rfl ⟨by decide, by decide⟩ ⟨Nat.zero_le _, Nat.zero_le _⟩ rfl hl.1 rfl (Nat.le_of_ble_eq_true rfl) d_R_prepare_123 (fun H locs G => ?_)
        refine lv_aload_n (pc := 126) hx hb d_R_prepare_126 rfl (lv_at hl 2 rfl) ?_
        refine lv_iload_n (pc := 127) hx hb d_R_prepare_127 rfl (lv_at hl 3 rfl) ?_
        refine lv_iload (pc := 128) hx hb d_R_prepare_128 (lv_at hl 0 rfl) ?_
        refine lv_iconst (pc := 130) (v := (0 : Int32)) hx hb d_R_prepare_130 (by decide) ?_
        obtain ⟨w18, hw18, hE⟩ := xs_b hE
        refine xs_callVr (pc := 131) (as := [.int (v1), .int (a2), .int ((0 : Int32))]) X (ok_R_placeOf l D ad cs hJ hw18) km_R_94 G (xs_wR ad cs _) rfl ⟨by decide, by decide⟩ ⟨Nat.zero_le _, Nat.zero_le _⟩ rfl hl.1 rfl (Nat.le_of_ble_eq_true rfl) d_R_prepare_131 (fun H locs G => ?_)
        refine lv_lmul (pc := 134) hx hb d_R_prepare_134 ?_
        refine lv_lsub (pc := 135) hx hb d_R_prepare_135 ?_
        obtain ⟨hi19, hE⟩ := xs_n hE
        refine xs_last (pc := 136) hx hb G la_165 (xs_inP hi19) d_R_prepare_136 (fun H locs G => ?_)
        obtain ⟨μ20, hμ20, hE⟩ := xs_b hE
        have G := xs_mv G hμ20
        clear hμ20
        refine lv_iinc (pc := 137) (v := (v2 + 1)) (k := 4) hx hb d_R_prepare_137 hl rfl (xs_inc _) (by decide) (lv' := [(2, .int ((v2 + 1))), (4, .int (a2)), (3, .int (a1)), (0, .ref (ad 154)), (1, .int (v1))]) rfl (fun ls hl => ?_)
        refine lv_goto (pc := 140) (tgt := 2) hx hb d_R_prepare_140 (by decide) ?_
        exact ih _ _ _ _ _ _ _ hE G (lv_sub hl [3, 4, 0] rfl) kk
  unfold fn_R_prepare at hE
  refine lv_iconst (pc := 0) (v := (0 : Int32)) hx hb d_R_prepare_0 (by decide) ?_
  refine lv_istore_n (pc := 1) hx hb d_R_prepare_1 rfl hl (by decide) (lv' := [(2, .int ((0 : Int32))), (0, .ref (ad 154)), (1, .int (x0))]) rfl (fun ls hl => ?_)
  obtain ⟨z21, hz21, hE⟩ := xs_b hE
  refine L2 _ _ _ _ _ _ _ _ hz21 G (lv_sub hl [1, 2, 0] rfl) (fun H locs ls G hl => ?_)
  refine lv_aload_n (pc := 143) hx hb d_R_prepare_143 rfl (lv_at hl 0 rfl) ?_
  refine lv_aload_n (pc := 144) hx hb d_R_prepare_144 rfl (lv_at hl 0 rfl) ?_
  refine lv_iload_n (pc := 145) hx hb d_R_prepare_145 rfl (lv_at hl 1 rfl) ?_
  refine lv_iconst (pc := 146) (v := (0 : Int32)) hx hb d_R_prepare_146 (by decide) ?_
  refine lv_iconst (pc := 147) (v := (0 : Int32)) hx hb d_R_prepare_147 (by decide) ?_
  obtain ⟨w22, hw22, hE⟩ := xs_b hE
  refine xs_callVr (pc := 148) (as := [.int (x0), .int ((0 : Int32)), .int ((0 : Int32))]) X (ok_R_placeOf l D ad cs hJ hw22) km_R_94 G (xs_wR ad cs _) rfl ⟨by decide, by decide⟩ ⟨Nat.zero_le _, Nat.zero_le _⟩ rfl hl.1 rfl (Nat.le_of_ble_eq_true rfl) d_R_prepare_148 (fun H locs G => ?_)
  refine lv_aload_n (pc := 151) hx hb d_R_prepare_151 rfl (lv_at hl 0 rfl) ?_
  refine gf_R_34 (pc := 152) X G d_R_prepare_152 ?_
  refine lv_iconst (pc := 155) (v := (0 : Int32)) hx hb d_R_prepare_155 (by decide) ?_
  refine xs_lald (pc := 156) hx hb G la_163 (xs_inP (by decide)) d_R_prepare_156 ?_
  refine lv_lmul (pc := 157) hx hb d_R_prepare_157 ?_
  refine lv_aload_n (pc := 158) hx hb d_R_prepare_158 rfl (lv_at hl 0 rfl) ?_
  refine lv_iload_n (pc := 159) hx hb d_R_prepare_159 rfl (lv_at hl 1 rfl) ?_
  refine lv_iconst (pc := 160) (v := (0 : Int32)) hx hb d_R_prepare_160 (by decide) ?_
  refine lv_iconst (pc := 161) (v := (1 : Int32)) hx hb d_R_prepare_161 (by decide) ?_
  obtain ⟨w23, hw23, hE⟩ := xs_b hE
  refine xs_callVr (pc := 162) (as := [.int (x0), .int ((0 : Int32)), .int ((1 : Int32))]) X (ok_R_placeOf l D ad cs hJ hw23) km_R_94 G (xs_wR ad cs _) rfl ⟨by decide, by decide⟩ ⟨Nat.zero_le _, Nat.zero_le _⟩ rfl hl.1 rfl (Nat.le_of_ble_eq_true rfl) d_R_prepare_162 (fun H locs G => ?_)
  refine lv_aload_n (pc := 165) hx hb d_R_prepare_165 rfl (lv_at hl 0 rfl) ?_
  refine gf_R_38 (pc := 166) X G d_R_prepare_166 ?_
  refine lv_iconst (pc := 169) (v := (0 : Int32)) hx hb d_R_prepare_169 (by decide) ?_
  refine xs_lald (pc := 170) hx hb G la_164 (xs_inP (by decide)) d_R_prepare_170 ?_
  refine lv_lmul (pc := 171) hx hb d_R_prepare_171 ?_
  refine lv_ladd (pc := 172) hx hb d_R_prepare_172 ?_
  refine lv_aload_n (pc := 173) hx hb d_R_prepare_173 rfl (lv_at hl 0 rfl) ?_
  refine lv_iload_n (pc := 174) hx hb d_R_prepare_174 rfl (lv_at hl 1 rfl) ?_
  refine lv_iconst (pc := 175) (v := (0 : Int32)) hx hb d_R_prepare_175 (by decide) ?_
  refine lv_iconst (pc := 176) (v := (2 : Int32)) hx hb d_R_prepare_176 (by decide) ?_
  obtain ⟨w24, hw24, hE⟩ := xs_b hE
  refine xs_callVr (pc := 177) (as := [.int (x0), .int ((0 : Int32)), .int ((2 : Int32))]) X (ok_R_placeOf l D ad cs hJ hw24) km_R_94 G (xs_wR ad cs _) rfl ⟨by decide, by decide⟩ ⟨Nat.zero_le _, Nat.zero_le _⟩ rfl hl.1 rfl (Nat.le_of_ble_eq_true rfl) d_R_prepare_177 (fun H locs G => ?_)
  refine lv_aload_n (pc := 180) hx hb d_R_prepare_180 rfl (lv_at hl 0 rfl) ?_
  refine gf_R_41 (pc := 181) X G d_R_prepare_181 ?_
  refine lv_iconst (pc := 184) (v := (0 : Int32)) hx hb d_R_prepare_184 (by decide) ?_
  refine xs_lald (pc := 185) hx hb G la_165 (xs_inP (by decide)) d_R_prepare_185 ?_
  refine lv_lmul (pc := 186) hx hb d_R_prepare_186 ?_
  refine lv_ladd (pc := 187) hx hb d_R_prepare_187 ?_
  refine pf_R_98 (pc := 188) X G d_R_prepare_188 (fun H locs G => ?_)
  obtain ⟨μ25, hμ25, hE⟩ := xs_b hE
  have G := xs_mv G hμ25
  clear hμ25
  cases hE
  exact xs_vret (pc := 191) hx hb hr hlk G d_R_prepare_191
def fn_R_covers_L51 : Nat → xs_M → Int32 → Int32 → Int32 → Int64 → Int32 → Int32 →  Option (Int32 × Int32 × xs_M)
  | 0, _, _, _, _, _, _, _ => none
  | fu + 1, μ, v1, v2, v3, v4, v6, v7 => (if (3 : Int32) ≤ v7 then some ((v6, v7, μ)) else (if xs_in v7 3 = true then ((some (v4 * (μ.2 163 v7.toNatClampNeg))).bind fun a4 => (if xs_in v7 3 = true then ((some (v4 * (μ.2 164 v7.toNatClampNeg))).bind fun a6 => (if xs_in v7 3 = true then (if xs_in v7 3 = true then ((some (xs_sl μ 166 v7.toNatClampNeg (((a4 * ((((2 : Int32) * v2) + (1 : Int32))).toInt64) + (a6 * ((((2 : Int32) * v3) + (1 : Int32))).toInt64)) + (v4 * (μ.2 165 v7.toNatClampNeg))))).bind fun μ9 => (if v6 = 0 then fn_R_covers_L51 fu μ9 v1 v2 v3 v4 (0 : Int32) (v7 + 1) else (if xs_in v7 3 = true then (if 0 < (lg_cmp (μ9.2 166 v7.toNatClampNeg) (0 : Int64)) then fn_R_covers_L51 fu μ9 v1 v2 v3 v4 (1 : Int32) (v7 + 1) else (if xs_in v7 3 = true then (if (lg_cmp (μ9.2 166 v7.toNatClampNeg) (0 : Int64)) = 0 then (if 0 < (lg_cmp a4 (0 : Int64)) then fn_R_covers_L51 fu μ9 v1 v2 v3 v4 (1 : Int32) (v7 + 1) else (if (lg_cmp a4 (0 : Int64)) = 0 then (if (lg_cmp a6 (0 : Int64)) ≤ 0 then fn_R_covers_L51 fu μ9 v1 v2 v3 v4 (0 : Int32) (v7 + 1) else fn_R_covers_L51 fu μ9 v1 v2 v3 v4 (1 : Int32) (v7 + 1)) else fn_R_covers_L51 fu μ9 v1 v2 v3 v4 (0 : Int32) (v7 + 1))) else fn_R_covers_L51 fu μ9 v1 v2 v3 v4 (0 : Int32) (v7 + 1)) else none)) else none))) else none) else none)) else none)) else none))
def fn_R_covers (μ0 : xs_M) (x0 : Int32) (x1 : Int32) (x2 : Int32) (x3 : Int64) : Option (Int32 × xs_M) :=
  (if (lg_cmp (μ0.2 154 14) (0 : Int64)) = 0 then some (((0 : Int32), μ0)) else (if xs_in x0 20 = true then (if (μ0.1 162 x0.toNatClampNeg) = (1 : Int32) then (if (lg_cmp x3 (0 : Int64)) < 0 then some (((0 : Int32), μ0)) else (if xs_in x0 20 = true then (if (μ0.1 162 x0.toNatClampNeg) = (2 : Int32) then (if (lg_cmp x3 (0 : Int64)) ≤ 0 then ((fn_R_covers_L51 xs_FU μ0 x0 x1 x2 x3 (1 : Int32) (0 : Int32)).bind fun z19 => (if z19.1 = 0 ∨ z19.1 = 1 then some ((z19.1, z19.2.2)) else none)) else some (((0 : Int32), μ0))) else ((fn_R_covers_L51 xs_FU μ0 x0 x1 x2 x3 (1 : Int32) (0 : Int32)).bind fun z17 => (if z17.1 = 0 ∨ z17.1 = 1 then some ((z17.1, z17.2.2)) else none))) else none)) else (if xs_in x0 20 = true then (if (μ0.1 162 x0.toNatClampNeg) = (2 : Int32) then (if (lg_cmp x3 (0 : Int64)) ≤ 0 then ((fn_R_covers_L51 xs_FU μ0 x0 x1 x2 x3 (1 : Int32) (0 : Int32)).bind fun z14 => (if z14.1 = 0 ∨ z14.1 = 1 then some ((z14.1, z14.2.2)) else none)) else some (((0 : Int32), μ0))) else ((fn_R_covers_L51 xs_FU μ0 x0 x1 x2 x3 (1 : Int32) (0 : Int32)).bind fun z12 => (if z12.1 = 0 ∨ z12.1 = 1 then some ((z12.1, z12.2.2)) else none))) else none)) else none))
set_option maxHeartbeats 4000000 in
set_option maxRecDepth 100000 in
theorem ok_R_covers (l : Launch) (D : va_G) (ad : Nat → Nat) (cs : xs_cs) (hJ : xs_J ad) {μ0 : xs_M} {x0 : Int32} {x1 : Int32} {x2 : Int32} {x3 : Int64}  {rz : (Int32 × xs_M)} (hE : fn_R_covers μ0 x0 x1 x2 x3 = some rz) : xs_I l D ad cs y_R_covers b_R_covers 12 (some .boolean) 0 0 [.ref (ad 154), .int (x0), .int (x1), .int (x2), .long (x3)] μ0 (some (.int rz.1)) rz.2 := by
  refine xs_entry hJ (by decide) (Nat.le_of_ble_eq_true rfl) ?_
  intro p e s m below meth c ls X hr hlk G hl
  have X : xs_C p s m c b_R_covers 12 _ "ExactSceneModel" := X
  have hx := X.1
  have hb := X.2.1
  have hl : lv_has ls 12 [(0, .ref (ad 154)), (1, .int (x0)), (2, .int (x1)), (3, .int (x2)), (4, .long (x3))] := hl
  have L51 : ∀ (fu : Nat) (μ : xs_M) (v1 : Int32) (v2 : Int32) (v3 : Int32) (v4 : Int64) (v6 : Int32) (v7 : Int32) (H : Heap) (locs : List Loc) (ls : Array Slot) (z : (Int32 × Int32 × xs_M)), fn_R_covers_L51 fu μ v1 v2 v3 v4 v6 v7 = some z → xs_G D ad cs s (xs_A ad s.heap.size) s.heap μ H locs → lv_has ls 12 [(0, .ref (ad 154)), (1, .int (v1)), (2, .int (v2)), (3, .int (v3)), (4, .long (v4)), (6, .int (v6)), (7, .int (v7))] → (∀ (H : Heap) (locs : List Loc) (ls : Array Slot), xs_G D ad cs s (xs_A ad s.heap.size) s.heap z.2.2 H locs → lv_has ls 12 [(0, .ref (ad 154)), (1, .int (v1)), (2, .int (v2)), (3, .int (v3)), (4, .long (v4)), (6, .int (z.1)), (7, .int (z.2.1))] → W p l e (xs_rm 0 0) s m ([.ref (ad 154), .int (x0), .int (x1), .int (x2), .long (x3)] : List Value).toArray below meth c H locs 0 0 (xs_E below D ad cs [.ref (ad 154), .int (x0), .int (x1), .int (x2), .long (x3)] s (some (.int rz.1)) rz.2) (F0 m 181 ls [])) → W p l e (xs_rm 0 0) s m ([.ref (ad 154), .int (x0), .int (x1), .int (x2), .long (x3)] : List Value).toArray below meth c H locs 0 0 (xs_E below D ad cs [.ref (ad 154), .int (x0), .int (x1), .int (x2), .long (x3)] s (some (.int rz.1)) rz.2) (F0 m 51 ls []) := by
    clear hE hl G
    intro fu
    induction fu with
    | zero =>
      intro μ v1 v2 v3 v4 v6 v7 H locs ls z hE
      rw [fn_R_covers_L51] at hE
      cases hE
    | succ fu ih =>
      intro μ v1 v2 v3 v4 v6 v7 H locs ls z hE G hl kk
      rw [fn_R_covers_L51] at hE
      refine lv_iload (pc := 51) hx hb d_R_covers_51 (lv_at hl 6 rfl) ?_
      refine lv_iconst (pc := 53) (v := (3 : Int32)) hx hb d_R_covers_53 (by decide) ?_
      refine lv_icmp_ge (pc := 54) (tgt := 181) hx hb d_R_covers_54 (by decide) (fun hc => ?_) (fun hc => ?_)
      · have hE := xs_t hE hc
        cases hE
        exact kk _ _ _ G (lv_sub hl [0, 1, 2, 3, 4, 5, 6] rfl)
      · have hE := xs_f hE hc
        refine lv_lload (pc := 57) hx hb d_R_covers_57 (lv_at hl 4 rfl) ?_
        refine lv_aload_n (pc := 59) hx hb d_R_covers_59 rfl (lv_at hl 0 rfl) ?_
        refine gf_R_34 (pc := 60) X G d_R_covers_60 ?_
        refine lv_iload (pc := 63) hx hb d_R_covers_63 (lv_at hl 6 rfl) ?_
        obtain ⟨hi3, hE⟩ := xs_n hE
        refine xs_lald (pc := 65) hx hb G la_163 (xs_inP hi3) d_R_covers_65 ?_
        refine lv_lmul (pc := 66) hx hb d_R_covers_66 ?_
        obtain ⟨a4, ha4, hE⟩ := xs_b hE
        refine xs_tl ha4 ?_
        clear ha4
        refine lv_lstore (pc := 67) hx hb d_R_covers_67 hl (by decide) (lv' := [(8, .long (a4)), (0, .ref (ad 154)), (1, .int (v1)), (2, .int (v2)), (3, .int (v3)), (4, .long (v4)), (6, .int (v6)), (7, .int (v7))]) rfl (fun ls hl => ?_)
        refine lv_lload (pc := 69) hx hb d_R_covers_69 (lv_at hl 5 rfl) ?_
        refine lv_aload_n (pc := 71) hx hb d_R_covers_71 rfl (lv_at hl 1 rfl) ?_
        refine gf_R_38 (pc := 72) X G d_R_covers_72 ?_
        refine lv_iload (pc := 75) hx hb d_R_covers_75 (lv_at hl 7 rfl) ?_
        obtain ⟨hi5, hE⟩ := xs_n hE
        refine xs_lald (pc := 77) hx hb G la_164 (xs_inP hi5) d_R_covers_77 ?_
        refine lv_lmul (pc := 78) hx hb d_R_covers_78 ?_
        obtain ⟨a6, ha6, hE⟩ := xs_b hE
        refine xs_tl ha6 ?_
        clear ha6
        refine lv_lstore (pc := 79) hx hb d_R_covers_79 hl (by decide) (lv' := [(10, .long (a6)), (8, .long (a4)), (0, .ref (ad 154)), (1, .int (v1)), (2, .int (v2)), (3, .int (v3)), (4, .long (v4)), (6, .int (v6)), (7, .int (v7))]) rfl (fun ls hl => ?_)
        refine lv_aload_n (pc := 81) hx hb d_R_covers_81 rfl (lv_at hl 2 rfl) ?_
        refine gf_R_44 (pc := 82) X G d_R_covers_82 ?_
        refine lv_iload (pc := 85) hx hb d_R_covers_85 (lv_at hl 8 rfl) ?_
        refine lv_lload (pc := 87) hx hb d_R_covers_87 (lv_at hl 1 rfl) ?_
        refine lv_iconst (pc := 89) (v := (2 : Int32)) hx hb d_R_covers_89 (by decide) ?_
        refine lv_iload_n (pc := 90) hx hb d_R_covers_90 rfl (lv_at hl 4 rfl) ?_
        refine lv_imul (pc := 91) hx hb d_R_covers_91 ?_
        refine lv_iconst (pc := 92) (v := (1 : Int32)) hx hb d_R_covers_92 (by decide) ?_
        refine lv_iadd (pc := 93) hx hb d_R_covers_93 ?_
        refine lv_i2l (pc := 94) hx hb d_R_covers_94 rfl ?_
        refine lv_lmul (pc := 95) hx hb d_R_covers_95 ?_
        refine lv_lload (pc := 96) hx hb d_R_covers_96 (lv_at hl 0 rfl) ?_
        refine lv_iconst (pc := 98) (v := (2 : Int32)) hx hb d_R_covers_98 (by decide) ?_
        refine lv_iload_n (pc := 99) hx hb d_R_covers_99 rfl (lv_at hl 5 rfl) ?_
        refine lv_imul (pc := 100) hx hb d_R_covers_100 ?_
        refine lv_iconst (pc := 101) (v := (1 : Int32)) hx hb d_R_covers_101 (by decide) ?_
        refine lv_iadd (pc := 102) hx hb d_R_covers_102 ?_
        refine lv_i2l (pc := 103) hx hb d_R_covers_103 rfl ?_
        refine lv_lmul (pc := 104) hx hb d_R_covers_104 ?_
        refine lv_ladd (pc := 105) hx hb d_R_covers_105 ?_
        refine lv_lload (pc := 106) hx hb d_R_covers_106 (lv_at hl 6 rfl) ?_
        refine lv_aload_n (pc := 108) hx hb d_R_covers_108 rfl (lv_at hl 2 rfl) ?_
        refine gf_R_41 (pc := 109) X G d_R_covers_109 ?_
        refine lv_iload (pc := 112) hx hb d_R_covers_112 (lv_at hl 8 rfl) ?_
        obtain ⟨hi7, hE⟩ := xs_n hE
        refine xs_lald (pc := 114) hx hb G la_165 (xs_inP hi7) d_R_covers_114 ?_
        refine lv_lmul (pc := 115) hx hb d_R_covers_115 ?_
        refine lv_ladd (pc := 116) hx hb d_R_covers_116 ?_
        obtain ⟨hi8, hE⟩ := xs_n hE
        refine xs_last (pc := 117) hx hb G la_166 (xs_inP hi8) d_R_covers_117 (fun H locs G => ?_)
        obtain ⟨μ9, hμ9, hE⟩ := xs_b hE
        have G := xs_mv G hμ9
        clear hμ9
        refine lv_iload (pc := 118) hx hb d_R_covers_118 (lv_at hl 7 rfl) ?_
        refine lv_if_eq (pc := 120) (tgt := 172) hx hb d_R_covers_120 (by decide) (fun hc => ?_) (fun hc => ?_)
        · have hE := xs_t hE hc
          refine lv_iconst (pc := 172) (v := (0 : Int32)) hx hb d_R_covers_172 (by decide) ?_
          refine lv_istore (pc := 173) hx hb d_R_covers_173 hl (by decide) (lv' := [(6, .int ((0 : Int32))), (10, .long (a6)), (8, .long (a4)), (0, .ref (ad 154)), (1, .int (v1)), (2, .int (v2)), (3, .int (v3)), (4, .long (v4)), (7, .int (v7))]) rfl (fun ls hl => ?_)
          refine lv_iinc (pc := 175) (v := (v7 + 1)) (k := 8) hx hb d_R_covers_175 hl rfl (xs_inc _) (by decide) (lv' := [(7, .int ((v7 + 1))), (6, .int ((0 : Int32))), (10, .long (a6)), (8, .long (a4)), (0, .ref (ad 154)), (1, .int (v1)), (2, .int (v2)), (3, .int (v3)), (4, .long (v4))]) rfl (fun ls hl => ?_)
          refine lv_goto (pc := 178) (tgt := 51) hx hb d_R_covers_178 (by decide) ?_
          exact ih _ _ _ _ _ _ _ _ _ _ _ hE G (lv_sub hl [4, 5, 6, 7, 8, 1, 0] rfl) kk
        · have hE := xs_f hE hc
          refine lv_aload_n (pc := 123) hx hb d_R_covers_123 rfl (lv_at hl 2 rfl) ?_
          refine gf_R_44 (pc := 124) X G d_R_covers_124 ?_
          refine lv_iload (pc := 127) hx hb d_R_covers_127 (lv_at hl 8 rfl) ?_
          obtain ⟨hi10, hE⟩ := xs_n hE
          refine xs_lald (pc := 129) hx hb G la_166 (xs_inP hi10) d_R_covers_129 ?_
          refine lv_lconst (pc := 130) (v := (0 : Int64)) hx hb d_R_covers_130 (by decide) ?_
          refine W.lcmp (pc := 131) hx hb d_R_covers_131 ?_
          refine lv_if_gt (pc := 132) (tgt := 168) hx hb d_R_covers_132 (by decide) (fun hc => ?_) (fun hc => ?_)
          · have hE := xs_t hE hc
            refine lv_iconst (pc := 168) (v := (1 : Int32)) hx hb d_R_covers_168 (by decide) ?_
            refine lv_goto (pc := 169) (tgt := 173) hx hb d_R_covers_169 (by decide) ?_
            refine lv_istore (pc := 173) hx hb d_R_covers_173 hl (by decide) (lv' := [(6, .int ((1 : Int32))), (10, .long (a6)), (8, .long (a4)), (0, .ref (ad 154)), (1, .int (v1)), (2, .int (v2)), (3, .int (v3)), (4, .long (v4)), (7, .int (v7))]) rfl (fun ls hl => ?_)
            refine lv_iinc (pc := 175) (v := (v7 + 1)) (k := 8) hx hb d_R_covers_175 hl rfl (xs_inc _) (by decide) (lv' := [(7, .int ((v7 + 1))), (6, .int ((1 : Int32))), (10, .long (a6)), (8, .long (a4)), (0, .ref (ad 154)), (1, .int (v1)), (2, .int (v2)), (3, .int (v3)), (4, .long (v4))]) rfl (fun ls hl => ?_)
            refine lv_goto (pc := 178) (tgt := 51) hx hb d_R_covers_178 (by decide) ?_
            exact ih _ _ _ _ _ _ _ _ _ _ _ hE G (lv_sub hl [4, 5, 6, 7, 8, 1, 0] rfl) kk
          · have hE := xs_f hE hc
            refine lv_aload_n (pc := 135) hx hb d_R_covers_135 rfl (lv_at hl 2 rfl) ?_
            refine gf_R_44 (pc := 136) X G d_R_covers_136 ?_
            refine lv_iload (pc := 139) hx hb d_R_covers_139 (lv_at hl 8 rfl) ?_
            obtain ⟨hi11, hE⟩ := xs_n hE
            refine xs_lald (pc := 141) hx hb G la_166 (xs_inP hi11) d_R_covers_141 ?_
            refine lv_lconst (pc := 142) (v := (0 : Int64)) hx hb d_R_covers_142 (by decide) ?_
            refine W.lcmp (pc := 143) hx hb d_R_covers_143 ?_
            refine lv_if_ne (pc := 144) (tgt := 172) hx hb d_R_covers_144 (by decide) (fun hc => ?_) (fun hc => ?_)
            · have hE := xs_f hE hc
              refine lv_iconst (pc := 172) (v := (0 : Int32)) hx hb d_R_covers_172 (by decide) ?_
              refine lv_istore (pc := 173) hx hb d_R_covers_173 hl (by decide) (lv' := [(6, .int ((0 : Int32))), (10, .long (a6)), (8, .long (a4)), (0, .ref (ad 154)), (1, .int (v1)), (2, .int (v2)), (3, .int (v3)), (4, .long (v4)), (7, .int (v7))]) rfl (fun ls hl => ?_)
              refine lv_iinc (pc := 175) (v := (v7 + 1)) (k := 8) hx hb d_R_covers_175 hl rfl (xs_inc _) (by decide) (lv' := [(7, .int ((v7 + 1))), (6, .int ((0 : Int32))), (10, .long (a6)), (8, .long (a4)), (0, .ref (ad 154)), (1, .int (v1)), (2, .int (v2)), (3, .int (v3)), (4, .long (v4))]) rfl (fun ls hl => ?_)
              refine lv_goto (pc := 178) (tgt := 51) hx hb d_R_covers_178 (by decide) ?_
              exact ih _ _ _ _ _ _ _ _ _ _ _ hE G (lv_sub hl [4, 5, 6, 7, 8, 1, 0] rfl) kk
            · have hE := xs_t hE hc
              refine lv_lload (pc := 147) hx hb d_R_covers_147 (lv_at hl 1 rfl) ?_
              refine lv_lconst (pc := 149) (v := (0 : Int64)) hx hb d_R_covers_149 (by decide) ?_
              refine W.lcmp (pc := 150) hx hb d_R_covers_150 ?_
              refine lv_if_gt (pc := 151) (tgt := 168) hx hb d_R_covers_151 (by decide) (fun hc => ?_) (fun hc => ?_)
              · have hE := xs_t hE hc
                refine lv_iconst (pc := 168) (v := (1 : Int32)) hx hb d_R_covers_168 (by decide) ?_
                refine lv_goto (pc := 169) (tgt := 173) hx hb d_R_covers_169 (by decide) ?_
                refine lv_istore (pc := 173) hx hb d_R_covers_173 hl (by decide) (lv' := [(6, .int ((1 : Int32))), (10, .long (a6)), (8, .long (a4)), (0, .ref (ad 154)), (1, .int (v1)), (2, .int (v2)), (3, .int (v3)), (4, .long (v4)), (7, .int (v7))]) rfl (fun ls hl => ?_)
                refine lv_iinc (pc := 175) (v := (v7 + 1)) (k := 8) hx hb d_R_covers_175 hl rfl (xs_inc _) (by decide) (lv' := [(7, .int ((v7 + 1))), (6, .int ((1 : Int32))), (10, .long (a6)), (8, .long (a4)), (0, .ref (ad 154)), (1, .int (v1)), (2, .int (v2)), (3, .int (v3)), (4, .long (v4))]) rfl (fun ls hl => ?_)
                refine lv_goto (pc := 178) (tgt := 51) hx hb d_R_covers_178 (by decide) ?_
                exact ih _ _ _ _ _ _ _ _ _ _ _ hE G (lv_sub hl [4, 5, 6, 7, 8, 1, 0] rfl) kk
              · have hE := xs_f hE hc
                refine lv_lload (pc := 154) hx hb d_R_covers_154 (lv_at hl 1 rfl) ?_
                refine lv_lconst (pc := 156) (v := (0 : Int64)) hx hb d_R_covers_156 (by decide) ?_
                refine W.lcmp (pc := 157) hx hb d_R_covers_157 ?_
                refine lv_if_ne (pc := 158) (tgt := 172) hx hb d_R_covers_158 (by decide) (fun hc => ?_) (fun hc => ?_)
                · have hE := xs_f hE hc
                  refine lv_iconst (pc := 172) (v := (0 : Int32)) hx hb d_R_covers_172 (by decide) ?_
                  refine lv_istore (pc := 173) hx hb d_R_covers_173 hl (by decide) (lv' := [(6, .int ((0 : Int32))), (10, .long (a6)), (8, .long (a4)), (0, .ref (ad 154)), (1, .int (v1)), (2, .int (v2)), (3, .int (v3)), (4, .long (v4)), (7, .int (v7))]) rfl (fun ls hl => ?_)
                  refine lv_iinc (pc := 175) (v := (v7 + 1)) (k := 8) hx hb d_R_covers_175 hl rfl (xs_inc _) (by decide) (lv' := [(7, .int ((v7 + 1))), (6, .int ((0 : Int32))), (10, .long (a6)), (8, .long (a4)), (0, .ref (ad 154)), (1, .int (v1)), (2, .int (v2)), (3, .int (v3)), (4, .long (v4))]) rfl (fun ls hl => ?_)
                  refine lv_goto (pc := 178) (tgt := 51) hx hb d_R_covers_178 (by decide) ?_
                  exact ih _ _ _ _ _ _ _ _ _ _ _ hE G (lv_sub hl [4, 5, 6, 7, 8, 1, 0] rfl) kk
                · have hE := xs_t hE hc
                  refine lv_lload (pc := 161) hx hb d_R_covers_161 (lv_at hl 0 rfl) ?_
                  refine lv_lconst (pc := 163) (v := (0 : Int64)) hx hb d_R_covers_163 (by decide) ?_
                  refine W.lcmp (pc := 164) hx hb d_R_covers_164 ?_
                  refine lv_if_le (pc := 165) (tgt := 172) hx hb d_R_covers_165 (by decide) (fun hc => ?_) (fun hc => ?_)
                  · have hE := xs_t hE hc
                    refine lv_iconst (pc := 172) (v := (0 : Int32)) hx hb d_R_covers_172 (by decide) ?_
                    refine lv_istore (pc := 173) hx hb d_R_covers_173 hl (by decide) (lv' := [(6, .int ((0 : Int32))), (10, .long (a6)), (8, .long (a4)), (0, .ref (ad 154)), (1, .int (v1)), (2, .int (v2)), (3, .int (v3)), (4, .long (v4)), (7, .int (v7))]) rfl (fun ls hl => ?_)
                    refine lv_iinc (pc := 175) (v := (v7 + 1)) (k := 8) hx hb d_R_covers_175 hl rfl (xs_inc _) (by decide) (lv' := [(7, .int ((v7 + 1))), (6, .int ((0 : Int32))), (10, .long (a6)), (8, .long (a4)), (0, .ref (ad 154)), (1, .int (v1)), (2, .int (v2)), (3, .int (v3)), (4, .long (v4))]) rfl (fun ls hl => ?_)
                    refine lv_goto (pc := 178) (tgt := 51) hx hb d_R_covers_178 (by decide) ?_
                    exact ih _ _ _ _ _ _ _ _ _ _ _ hE G (lv_sub hl [4, 5, 6, 7, 8, 1, 0] rfl) kk
                  · have hE := xs_f hE hc
                    refine lv_iconst (pc := 168) (v := (1 : Int32)) hx hb d_R_covers_168 (by decide) ?_
                    refine lv_goto (pc := 169) (tgt := 173) hx hb d_R_covers_169 (by decide) ?_
                    refine lv_istore (pc := 173) hx hb d_R_covers_173 hl (by decide) (lv' := [(6, .int ((1 : Int32))), (10, .long (a6)), (8, .long (a4)), (0, .ref (ad 154)), (1, .int (v1)), (2, .int (v2)), (3, .int (v3)), (4, .long (v4)), (7, .int (v7))]) rfl (fun ls hl => ?_)
                    refine lv_iinc (pc := 175) (v := (v7 + 1)) (k := 8) hx hb d_R_covers_175 hl rfl (xs_inc _) (by decide) (lv' := [(7, .int ((v7 + 1))), (6, .int ((1 : Int32))), (10, .long (a6)), (8, .long (a4)), (0, .ref (ad 154)), (1, .int (v1)), (2, .int (v2)), (3, .int (v3)), (4, .long (v4))]) rfl (fun ls hl => ?_)
                    refine lv_goto (pc := 178) (tgt := 51) hx hb d_R_covers_178 (by decide) ?_
                    exact ih _ _ _ _ _ _ _ _ _ _ _ hE G (lv_sub hl [4, 5, 6, 7, 8, 1, 0] rfl) kk
  unfold fn_R_covers at hE
  refine lv_aload_n (pc := 0) hx hb d_R_covers_0 rfl (lv_at hl 0 rfl) ?_
  refine gf_R_98 (pc := 1) X G d_R_covers_1 ?_
  refine lv_lconst (pc := 4) (v := (0 : Int64)) hx hb d_R_covers_4 (by decide) ?_
  refine W.lcmp (pc := 5) hx hb d_R_covers_5 ?_
  refine lv_if_eq (pc := 6) (tgt := 43) hx hb d_R_covers_6 (by decide) (fun hc => ?_) (fun hc => ?_)
  · have hE := xs_t hE hc
    refine lv_iconst (pc := 43) (v := (0 : Int32)) hx hb d_R_covers_43 (by decide) ?_
    cases hE
    exact xs_zret (pc := 44) hx hb hr hlk G (Or.inl rfl) d_R_covers_44
  · have hE := xs_f hE hc
    refine lv_aload_n (pc := 9) hx hb d_R_covers_9 rfl (lv_at hl 0 rfl) ?_
    refine gf_R_31 (pc := 10) X G d_R_covers_10 ?_
    refine lv_iload_n (pc := 13) hx hb d_R_covers_13 rfl (lv_at hl 1 rfl) ?_
    obtain ⟨hi1, hE⟩ := xs_n hE
    refine xs_iald (pc := 14) hx hb G ia_162 (xs_inP hi1) d_R_covers_14 ?_
    refine lv_iconst (pc := 15) (v := (1 : Int32)) hx hb d_R_covers_15 (by decide) ?_
    refine lv_icmp_ne (pc := 16) (tgt := 26) hx hb d_R_covers_16 (by decide) (fun hc => ?_) (fun hc => ?_)
    · have hE := xs_f hE hc
      refine lv_aload_n (pc := 26) hx hb d_R_covers_26 rfl (lv_at hl 0 rfl) ?_
      refine gf_R_31 (pc := 27) X G d_R_covers_27 ?_
      refine lv_iload_n (pc := 30) hx hb d_R_covers_30 rfl (lv_at hl 1 rfl) ?_
      obtain ⟨hi2, hE⟩ := xs_n hE
      refine xs_iald (pc := 31) hx hb G ia_162 (xs_inP hi2) d_R_covers_31 ?_
      refine lv_iconst (pc := 32) (v := (2 : Int32)) hx hb d_R_covers_32 (by decide) ?_
      refine lv_icmp_ne (pc := 33) (tgt := 45) hx hb d_R_covers_33 (by decide) (fun hc => ?_) (fun hc => ?_)
      · have hE := xs_f hE hc
        refine lv_iconst (pc := 45) (v := (1 : Int32)) hx hb d_R_covers_45 (by decide) ?_
        refine lv_istore (pc := 46) hx hb d_R_covers_46 hl (by decide) (lv' := [(6, .int ((1 : Int32))), (0, .ref (ad 154)), (1, .int (x0)), (2, .int (x1)), (3, .int (x2)), (4, .long (x3))]) rfl (fun ls hl => ?_)
        refine lv_iconst (pc := 48) (v := (0 : Int32)) hx hb d_R_covers_48 (by decide) ?_
        refine lv_istore (pc := 49) hx hb d_R_covers_49 hl (by decide) (lv' := [(7, .int ((0 : Int32))), (6, .int ((1 : Int32))), (0, .ref (ad 154)), (1, .int (x0)), (2, .int (x1)), (3, .int (x2)), (4, .long (x3))]) rfl (fun ls hl => ?_)
        obtain ⟨z12, hz12, hE⟩ := xs_b hE
        refine L51 _ _ _ _ _ _ _ _ _ _ _ _ hz12 G (lv_sub hl [2, 3, 4, 5, 6, 1, 0] rfl) (fun H locs ls G hl => ?_)
        refine lv_iload (pc := 181) hx hb d_R_covers_181 (lv_at hl 5 rfl) ?_
        obtain ⟨hz13, hE⟩ := xs_n hE
        cases hE
        exact xs_zret (pc := 183) hx hb hr hlk G hz13 d_R_covers_183
      · have hE := xs_t hE hc
        refine lv_lload (pc := 36) hx hb d_R_covers_36 (lv_at hl 4 rfl) ?_
        refine lv_lconst (pc := 38) (v := (0 : Int64)) hx hb d_R_covers_38 (by decide) ?_
        refine W.lcmp (pc := 39) hx hb d_R_covers_39 ?_
        refine lv_if_le (pc := 40) (tgt := 45) hx hb d_R_covers_40 (by decide) (fun hc => ?_) (fun hc => ?_)
        · have hE := xs_t hE hc
          refine lv_iconst (pc := 45) (v := (1 : Int32)) hx hb d_R_covers_45 (by decide) ?_
          refine lv_istore (pc := 46) hx hb d_R_covers_46 hl (by decide) (lv' := [(6, .int ((1 : Int32))), (0, .ref (ad 154)), (1, .int (x0)), (2, .int (x1)), (3, .int (x2)), (4, .long (x3))]) rfl (fun ls hl => ?_)
          refine lv_iconst (pc := 48) (v := (0 : Int32)) hx hb d_R_covers_48 (by decide) ?_
          refine lv_istore (pc := 49) hx hb d_R_covers_49 hl (by decide) (lv' := [(7, .int ((0 : Int32))), (6, .int ((1 : Int32))), (0, .ref (ad 154)), (1, .int (x0)), (2, .int (x1)), (3, .int (x2)), (4, .long (x3))]) rfl (fun ls hl => ?_)
          obtain ⟨z14, hz14, hE⟩ := xs_b hE
          refine L51 _ _ _ _ _ _ _ _ _ _ _ _ hz14 G (lv_sub hl [2, 3, 4, 5, 6, 1, 0] rfl) (fun H locs ls G hl => ?_)
          refine lv_iload (pc := 181) hx hb d_R_covers_181 (lv_at hl 5 rfl) ?_
          obtain ⟨hz15, hE⟩ := xs_n hE
          cases hE
          exact xs_zret (pc := 183) hx hb hr hlk G hz15 d_R_covers_183
        · have hE := xs_f hE hc
          refine lv_iconst (pc := 43) (v := (0 : Int32)) hx hb d_R_covers_43 (by decide) ?_
          cases hE
          exact xs_zret (pc := 44) hx hb hr hlk G (Or.inl rfl) d_R_covers_44
    · have hE := xs_t hE hc
      refine lv_lload (pc := 19) hx hb d_R_covers_19 (lv_at hl 4 rfl) ?_
      refine lv_lconst (pc := 21) (v := (0 : Int64)) hx hb d_R_covers_21 (by decide) ?_
      refine W.lcmp (pc := 22) hx hb d_R_covers_22 ?_
      refine lv_if_lt (pc := 23) (tgt := 43) hx hb d_R_covers_23 (by decide) (fun hc => ?_) (fun hc => ?_)
      · have hE := xs_t hE hc
        refine lv_iconst (pc := 43) (v := (0 : Int32)) hx hb d_R_covers_43 (by decide) ?_
        cases hE
        exact xs_zret (pc := 44) hx hb hr hlk G (Or.inl rfl) d_R_covers_44
      · have hE := xs_f hE hc
        refine lv_aload_n (pc := 26) hx hb d_R_covers_26 rfl (lv_at hl 0 rfl) ?_
        refine gf_R_31 (pc := 27) X G d_R_covers_27 ?_
        refine lv_iload_n (pc := 30) hx hb d_R_covers_30 rfl (lv_at hl 1 rfl) ?_
        obtain ⟨hi16, hE⟩ := xs_n hE
        refine xs_iald (pc := 31) hx hb G ia_162 (xs_inP hi16) d_R_covers_31 ?_
        refine lv_iconst (pc := 32) (v := (2 : Int32)) hx hb d_R_covers_32 (by decide) ?_
        refine lv_icmp_ne (pc := 33) (tgt := 45) hx hb d_R_covers_33 (by decide) (fun hc => ?_) (fun hc => ?_)
        · have hE := xs_f hE hc
          refine lv_iconst (pc := 45) (v := (1 : Int32)) hx hb d_R_covers_45 (by decide) ?_
          refine lv_istore (pc := 46) hx hb d_R_covers_46 hl (by decide) (lv' := [(6, .int ((1 : Int32))), (0, .ref (ad 154)), (1, .int (x0)), (2, .int (x1)), (3, .int (x2)), (4, .long (x3))]) rfl (fun ls hl => ?_)
          refine lv_iconst (pc := 48) (v := (0 : Int32)) hx hb d_R_covers_48 (by decide) ?_
          refine lv_istore (pc := 49) hx hb d_R_covers_49 hl (by decide) (lv' := [(7, .int ((0 : Int32))), (6, .int ((1 : Int32))), (0, .ref (ad 154)), (1, .int (x0)), (2, .int (x1)), (3, .int (x2)), (4, .long (x3))]) rfl (fun ls hl => ?_)
          obtain ⟨z17, hz17, hE⟩ := xs_b hE
          refine L51 _ _ _ _ _ _ _ _ _ _ _ _ hz17 G (lv_sub hl [2, 3, 4, 5, 6, 1, 0] rfl) (fun H locs ls G hl => ?_)
          refine lv_iload (pc := 181) hx hb d_R_covers_181 (lv_at hl 5 rfl) ?_
          obtain ⟨hz18, hE⟩ := xs_n hE
          cases hE
          exact xs_zret (pc := 183) hx hb hr hlk G hz18 d_R_covers_183
        · have hE := xs_t hE hc
          refine lv_lload (pc := 36) hx hb d_R_covers_36 (lv_at hl 4 rfl) ?_
          refine lv_lconst (pc := 38) (v := (0 : Int64)) hx hb d_R_covers_38 (by decide) ?_
          refine W.lcmp (pc := 39) hx hb d_R_covers_39 ?_
          refine lv_if_le (pc := 40) (tgt := 45) hx hb d_R_covers_40 (by decide) (fun hc => ?_) (fun hc => ?_)
          · have hE := xs_t hE hc
            refine lv_iconst (pc := 45) (v := (1 : Int32)) hx hb d_R_covers_45 (by decide) ?_
            refine lv_istore (pc := 46) hx hb d_R_covers_46 hl (by decide) (lv' := [(6, .int ((1 : Int32))), (0, .ref (ad 154)), (1, .int (x0)), (2, .int (x1)), (3, .int (x2)), (4, .long (x3))]) rfl (fun ls hl => ?_)
            refine lv_iconst (pc := 48) (v := (0 : Int32)) hx hb d_R_covers_48 (by decide) ?_
            refine lv_istore (pc := 49) hx hb d_R_covers_49 hl (by decide) (lv' := [(7, .int ((0 : Int32))), (6, .int ((1 : Int32))), (0, .ref (ad 154)), (1, .int (x0)), (2, .int (x1)), (3, .int (x2)), (4, .long (x3))]) rfl (fun ls hl => ?_)
            obtain ⟨z19, hz19, hE⟩ := xs_b hE
            refine L51 _ _ _ _ _ _ _ _ _ _ _ _ hz19 G (lv_sub hl [2, 3, 4, 5, 6, 1, 0] rfl) (fun H locs ls G hl => ?_)
            refine lv_iload (pc := 181) hx hb d_R_covers_181 (lv_at hl 5 rfl) ?_
            obtain ⟨hz20, hE⟩ := xs_n hE
            cases hE
            exact xs_zret (pc := 183) hx hb hr hlk G hz20 d_R_covers_183
          · have hE := xs_f hE hc
            refine lv_iconst (pc := 43) (v := (0 : Int32)) hx hb d_R_covers_43 (by decide) ?_
            cases hE
            exact xs_zret (pc := 44) hx hb hr hlk G (Or.inl rfl) d_R_covers_44
def fn_R_texelOf (μ0 : xs_M) (x0 : Int32) : Option Int32 :=
  ((some (((μ0.2 166 (0 : Int32).toNatClampNeg) + (μ0.2 166 (1 : Int32).toNatClampNeg)) + (μ0.2 166 (2 : Int32).toNatClampNeg))).bind fun a1 => ((fn_R_placeOf μ0 x0 (0 : Int32) (4 : Int32)).bind fun w2 => ((fn_R_placeOf μ0 x0 (1 : Int32) (4 : Int32)).bind fun w3 => ((fn_R_placeOf μ0 x0 (2 : Int32) (4 : Int32)).bind fun w4 => ((fn_R_floor μ0 ((((μ0.2 166 (0 : Int32).toNatClampNeg) * w2) + ((μ0.2 166 (1 : Int32).toNatClampNeg) * w3)) + ((μ0.2 166 (2 : Int32).toNatClampNeg) * w4)) a1).bind fun w5 => ((fn_R_placeOf μ0 x0 (0 : Int32) (5 : Int32)).bind fun w6 => ((fn_R_placeOf μ0 x0 (1 : Int32) (5 : Int32)).bind fun w7 => ((fn_R_placeOf μ0 x0 (2 : Int32) (5 : Int32)).bind fun w8 => ((fn_R_floor μ0 ((((μ0.2 166 (0 : Int32).toNatClampNeg) * w6) + ((μ0.2 166 (1 : Int32).toNatClampNeg) * w7)) + ((μ0.2 166 (2 : Int32).toNatClampNeg) * w8)) a1).bind fun w9 => (if xs_in x0 20 = true then (if (μ0.1 161 x0.toNatClampNeg) = 0 then ((some (((w5 &&& (7 : Int64))).toInt32)).bind fun a45 => (if xs_in x0 20 = true then (if (μ0.1 161 x0.toNatClampNeg) = 0 then ((some (((w9 &&& (7 : Int64))).toInt32)).bind fun a54 => (if xs_in x0 20 = true then (if xs_in ((((64 : Int32) * (μ0.1 160 x0.toNatClampNeg)) + ((8 : Int32) * a45)) + a54) 128 = true then some ((μ0.1 158 ((((64 : Int32) * (μ0.1 160 x0.toNatClampNeg)) + ((8 : Int32) * a45)) + a54).toNatClampNeg)) else none) else none)) else (if 0 ≤ (lg_cmp w9 (0 : Int64)) then (if (lg_cmp w9 (7 : Int64)) ≤ 0 then ((some ((w9).toInt32)).bind fun a47 => (if xs_in x0 20 = true then (if xs_in ((((64 : Int32) * (μ0.1 160 x0.toNatClampNeg)) + ((8 : Int32) * a45)) + a47) 128 = true then some ((μ0.1 158 ((((64 : Int32) * (μ0.1 160 x0.toNatClampNeg)) + ((8 : Int32) * a45)) + a47).toNatClampNeg)) else none) else none)) else (if xs_in x0 20 = true then (if xs_in ((((64 : Int32) * (μ0.1 160 x0.toNatClampNeg)) + ((8 : Int32) * a45)) + (7 : Int32)) 128 = true then some ((μ0.1 158 ((((64 : Int32) * (μ0.1 160 x0.toNatClampNeg)) + ((8 : Int32) * a45)) + (7 : Int32)).toNatClampNeg)) else none) else none)) else (if xs_in x0 20 = true then (if xs_in ((((64 : Int32) * (μ0.1 160 x0.toNatClampNeg)) + ((8 : Int32) * a45)) + (0 : Int32)) 128 = true then some ((μ0.1 158 ((((64 : Int32) * (μ0.1 160 x0.toNatClampNeg)) + ((8 : Int32) * a45)) + (0 : Int32)).toNatClampNeg)) else none) else none))) else none)) else (if 0 ≤ (lg_cmp w5 (0 : Int64)) then (if (lg_cmp w5 (7 : Int64)) ≤ 0 then ((some ((w5).toInt32)).bind fun a11 => (if xs_in x0 20 = true then (if (μ0.1 161 x0.toNatClampNeg) = 0 then ((some (((w9 &&& (7 : Int64))).toInt32)).bind fun a20 => (if xs_in x0 20 = true then (if xs_in ((((64 : Int32) * (μ0.1 160 x0.toNatClampNeg)) + ((8 : Int32) * a11)) + a20) 128 = true then some ((μ0.1 158 ((((64 : Int32) * (μ0.1 160 x0.toNatClampNeg)) + ((8 : Int32) * a11)) + a20).toNatClampNeg)) else none) else none)) else (if 0 ≤ (lg_cmp w9 (0 : Int64)) then (if (lg_cmp w9 (7 : Int64)) ≤ 0 then ((some ((w9).toInt32)).bind fun a13 => (if xs_in x0 20 = true then (if xs_in ((((64 : Int32) * (μ0.1 160 x0.toNatClampNeg)) + ((8 : Int32) * a11)) + a13) 128 = true then some ((μ0.1 158 ((((64 : Int32) * (μ0.1 160 x0.toNatClampNeg)) + ((8 : Int32) * a11)) + a13).toNatClampNeg)) else none) else none)) else (if xs_in x0 20 = true then (if xs_in ((((64 : Int32) * (μ0.1 160 x0.toNatClampNeg)) + ((8 : Int32) * a11)) + (7 : Int32)) 128 = true then some ((μ0.1 158 ((((64 : Int32) * (μ0.1 160 x0.toNatClampNeg)) + ((8 : Int32) * a11)) + (7 : Int32)).toNatClampNeg)) else none) else none)) else (if xs_in x0 20 = true then (if xs_in ((((64 : Int32) * (μ0.1 160 x0.toNatClampNeg)) + ((8 : Int32) * a11)) + (0 : Int32)) 128 = true then some ((μ0.1 158 ((((64 : Int32) * (μ0.1 160 x0.toNatClampNeg)) + ((8 : Int32) * a11)) + (0 : Int32)).toNatClampNeg)) else none) else none))) else none)) else (if xs_in x0 20 = true then (if (μ0.1 161 x0.toNatClampNeg) = 0 then ((some (((w9 &&& (7 : Int64))).toInt32)).bind fun a31 => (if xs_in x0 20 = true then (if xs_in ((((64 : Int32) * (μ0.1 160 x0.toNatClampNeg)) + ((8 : Int32) * (7 : Int32))) + a31) 128 = true then some ((μ0.1 158 ((((64 : Int32) * (μ0.1 160 x0.toNatClampNeg)) + ((8 : Int32) * (7 : Int32))) + a31).toNatClampNeg)) else none) else none)) else (if 0 ≤ (lg_cmp w9 (0 : Int64)) then (if (lg_cmp w9 (7 : Int64)) ≤ 0 then ((some ((w9).toInt32)).bind fun a24 => (if xs_in x0 20 = true then (if xs_in ((((64 : Int32) * (μ0.1 160 x0.toNatClampNeg)) + ((8 : Int32) * (7 : Int32))) + a24) 128 = true then some ((μ0.1 158 ((((64 : Int32) * (μ0.1 160 x0.toNatClampNeg)) + ((8 : Int32) * (7 : Int32))) + a24).toNatClampNeg)) else none) else none)) else (if xs_in x0 20 = true then (if xs_in ((((64 : Int32) * (μ0.1 160 x0.toNatClampNeg)) + ((8 : Int32) * (7 : Int32))) + (7 : Int32)) 128 = true then some ((μ0.1 158 ((((64 : Int32) * (μ0.1 160 x0.toNatClampNeg)) + ((8 : Int32) * (7 : Int32))) + (7 : Int32)).toNatClampNeg)) else none) else none)) else (if xs_in x0 20 = true then (if xs_in ((((64 : Int32) * (μ0.1 160 x0.toNatClampNeg)) + ((8 : Int32) * (7 : Int32))) + (0 : Int32)) 128 = true then some ((μ0.1 158 ((((64 : Int32) * (μ0.1 160 x0.toNatClampNeg)) + ((8 : Int32) * (7 : Int32))) + (0 : Int32)).toNatClampNeg)) else none) else none))) else none)) else (if xs_in x0 20 = true then (if (μ0.1 161 x0.toNatClampNeg) = 0 then ((some (((w9 &&& (7 : Int64))).toInt32)).bind fun a42 => (if xs_in x0 20 = true then (if xs_in ((((64 : Int32) * (μ0.1 160 x0.toNatClampNeg)) + ((8 : Int32) * (0 : Int32))) + a42) 128 = true then some ((μ0.1 158 ((((64 : Int32) * (μ0.1 160 x0.toNatClampNeg)) + ((8 : Int32) * (0 : Int32))) + a42).toNatClampNeg)) else none) else none)) else (if 0 ≤ (lg_cmp w9 (0 : Int64)) then (if (lg_cmp w9 (7 : Int64)) ≤ 0 then ((some ((w9).toInt32)).bind fun a35 => (if xs_in x0 20 = true then (if xs_in ((((64 : Int32) * (μ0.1 160 x0.toNatClampNeg)) + ((8 : Int32) * (0 : Int32))) + a35) 128 = true then some ((μ0.1 158 ((((64 : Int32) * (μ0.1 160 x0.toNatClampNeg)) + ((8 : Int32) * (0 : Int32))) + a35).toNatClampNeg)) else none) else none)) else (if xs_in x0 20 = true then (if xs_in ((((64 : Int32) * (μ0.1 160 x0.toNatClampNeg)) + ((8 : Int32) * (0 : Int32))) + (7 : Int32)) 128 = true then some ((μ0.1 158 ((((64 : Int32) * (μ0.1 160 x0.toNatClampNeg)) + ((8 : Int32) * (0 : Int32))) + (7 : Int32)).toNatClampNeg)) else none) else none)) else (if xs_in x0 20 = true then (if xs_in ((((64 : Int32) * (μ0.1 160 x0.toNatClampNeg)) + ((8 : Int32) * (0 : Int32))) + (0 : Int32)) 128 = true then some ((μ0.1 158 ((((64 : Int32) * (μ0.1 160 x0.toNatClampNeg)) + ((8 : Int32) * (0 : Int32))) + (0 : Int32)).toNatClampNeg)) else none) else none))) else none))) else none))))))))))
set_option maxHeartbeats 4000000 in
set_option maxRecDepth 100000 in
theorem ok_R_texelOf (l : Launch) (D : va_G) (ad : Nat → Nat) (cs : xs_cs) (hJ : xs_J ad) {μ0 : xs_M} {x0 : Int32}  {rz : Int32} (hE : fn_R_texelOf μ0 x0 = some rz) : xs_I l D ad cs y_R_texelOf b_R_texelOf 10 (some .int) 1 25 [.ref (ad 154), .int (x0)] μ0 (some (.int rz)) μ0 := by
  refine xs_entry hJ (by decide) (Nat.le_of_ble_eq_true rfl) ?_
  intro p e s m below meth c ls X hr hlk G hl
  have X : xs_C p s m c b_R_texelOf 10 _ "ExactSceneModel" := X
  have hx := X.1
  have hb := X.2.1
  have hl : lv_has ls 10 [(0, .ref (ad 154)), (1, .int (x0))] := hl
  unfold fn_R_texelOf at hE
  refine lv_aload_n (pc := 0) hx hb d_R_texelOf_0 rfl (lv_at hl 0 rfl) ?_
  refine gf_R_44 (pc := 1) X G d_R_texelOf_1 ?_
  refine lv_iconst (pc := 4) (v := (0 : Int32)) hx hb d_R_texelOf_4 (by decide) ?_
  refine xs_lald (pc := 5) hx hb G la_166 (xs_inP (by decide)) d_R_texelOf_5 ?_
  refine lv_aload_n (pc := 6) hx hb d_R_texelOf_6 rfl (lv_at hl 0 rfl) ?_
  refine gf_R_44 (pc := 7) X G d_R_texelOf_7 ?_
  refine lv_iconst (pc := 10) (v := (1 : Int32)) hx hb d_R_texelOf_10 (by decide) ?_
  refine xs_lald (pc := 11) hx hb G la_166 (xs_inP (by decide)) d_R_texelOf_11 ?_
  refine lv_ladd (pc := 12) hx hb d_R_texelOf_12 ?_
  refine lv_aload_n (pc := 13) hx hb d_R_texelOf_13 rfl (lv_at hl 0 rfl) ?_
  refine gf_R_44 (pc := 14) X G d_R_texelOf_14 ?_
  refine lv_iconst (pc := 17) (v := (2 : Int32)) hx hb d_R_texelOf_17 (by decide) ?_
  refine xs_lald (pc := 18) hx hb G la_166 (xs_inP (by decide)) d_R_texelOf_18 ?_
  refine lv_ladd (pc := 19) hx hb d_R_texelOf_19 ?_
  obtain ⟨a1, ha1, hE⟩ := xs_b hE
  refine xs_tl ha1 ?_
  clear ha1
  refine lv_lstore_n (pc := 20) hx hb d_R_texelOf_20 rfl hl (by decide) (lv' := [(2, .long (a1)), (0, .ref (ad 154)), (1, .int (x0))]) rfl (fun ls hl => ?_)
  refine lv_aload_n (pc := 21) hx hb d_R_texelOf_21 rfl (lv_at hl 1 rfl) ?_
  refine gf_R_44 (pc := 22) X G d_R_texelOf_22 ?_
  refine lv_iconst (pc := 25) (v := (0 : Int32)) hx hb d_R_texelOf_25 (by decide) ?_
  refine xs_lald (pc := 26) hx hb G la_166 (xs_inP (by decide)) d_R_texelOf_26 ?_
  refine lv_aload_n (pc := 27) hx hb d_R_texelOf_27 rfl (lv_at hl 1 rfl) ?_
  refine lv_iload_n (pc := 28) hx hb d_R_texelOf_28 rfl (lv_at hl 2 rfl) ?_
  refine lv_iconst (pc := 29) (v := (0 : Int32)) hx hb d_R_texelOf_29 (by decide) ?_
  refine lv_iconst (pc := 30) (v := (4 : Int32)) hx hb d_R_texelOf_30 (by decide) ?_
  obtain ⟨w2, hw2, hE⟩ := xs_b hE
  refine xs_callVr (pc := 31) (as := [.int (x0), .int ((0 : Int32)), .int ((4 : Int32))]) X (ok_R_placeOf l D ad cs hJ hw2) km_R_94 G (xs_wR ad cs _) rfl ⟨by decide, by decide⟩ ⟨Nat.zero_le _, Nat.zero_le _⟩ rfl hl.1 rfl (Nat.le_of_ble_eq_true rfl) d_R_texelOf_31 (fun H locs G => ?_)
  refine lv_lmul (pc := 34) hx hb d_R_texelOf_34 ?_
  refine lv_aload_n (pc := 35) hx hb d_R_texelOf_35 rfl (lv_at hl 1 rfl) ?_
  refine gf_R_44 (pc := 36) X G d_R_texelOf_36 ?_
  refine lv_iconst (pc := 39) (v := (1 : Int32)) hx hb d_R_texelOf_39 (by decide) ?_
  refine xs_lald (pc := 40) hx hb G la_166 (xs_inP (by decide)) d_R_texelOf_40 ?_
  refine lv_aload_n (pc := 41) hx hb d_R_texelOf_41 rfl (lv_at hl 1 rfl) ?_
  refine lv_iload_n (pc := 42) hx hb d_R_texelOf_42 rfl (lv_at hl 2 rfl) ?_
  refine lv_iconst (pc := 43) (v := (1 : Int32)) hx hb d_R_texelOf_43 (by decide) ?_
  refine lv_iconst (pc := 44) (v := (4 : Int32)) hx hb d_R_texelOf_44 (by decide) ?_
  obtain ⟨w3, hw3, hE⟩ := xs_b hE
  refine xs_callVr (pc := 45) (as := [.int (x0), .int ((1 : Int32)), .int ((4 : Int32))]) X (ok_R_placeOf l D ad cs hJ hw3) km_R_94 G (xs_wR ad cs _) rfl ⟨by decide, by decide⟩ ⟨Nat.zero_le _, Nat.zero_le _⟩ rfl hl.1 rfl (Nat.le_of_ble_eq_true rfl) d_R_texelOf_45 (fun H locs G => ?_)
  refine lv_lmul (pc := 48) hx hb d_R_texelOf_48 ?_
  refine lv_ladd (pc := 49) hx hb d_R_texelOf_49 ?_
  refine lv_aload_n (pc := 50) hx hb d_R_texelOf_50 rfl (lv_at hl 1 rfl) ?_
  refine gf_R_44 (pc := 51) X G d_R_texelOf_51 ?_
  refine lv_iconst (pc := 54) (v := (2 : Int32)) hx hb d_R_texelOf_54 (by decide) ?_
  refine xs_lald (pc := 55) hx hb G la_166 (xs_inP (by decide)) d_R_texelOf_55 ?_
  refine lv_aload_n (pc := 56) hx hb d_R_texelOf_56 rfl (lv_at hl 1 rfl) ?_
  refine lv_iload_n (pc := 57) hx hb d_R_texelOf_57 rfl (lv_at hl 2 rfl) ?_
  refine lv_iconst (pc := 58) (v := (2 : Int32)) hx hb d_R_texelOf_58 (by decide) ?_
  refine lv_iconst (pc := 59) (v := (4 : Int32)) hx hb d_R_texelOf_59 (by decide) ?_
  obtain ⟨w4, hw4, hE⟩ := xs_b hE
  refine xs_callVr (pc := 60) (as := [.int (x0), .int ((2 : Int32)), .int ((4 : Int32))]) X (ok_R_placeOf l D ad cs hJ hw4) km_R_94 G (xs_wR ad cs _) rfl ⟨by decide, by decide⟩ ⟨Nat.zero_le _, Nat.zero_le _⟩ rfl hl.1 rfl (Nat.le_of_ble_eq_true rfl) d_R_texelOf_60 (fun H locs G => ?_)
  refine lv_lmul (pc := 63) hx hb d_R_texelOf_63 ?_
  refine lv_ladd (pc := 64) hx hb d_R_texelOf_64 ?_
  refine lv_lload_n (pc := 65) hx hb d_R_texelOf_65 rfl (lv_at hl 0 rfl) ?_
  obtain ⟨w5, hw5, hE⟩ := xs_b hE
  refine xs_callSr (pc := 66) (as := [.long (((((μ0.2 166 (0 : Int32).toNatClampNeg) * w2) + ((μ0.2 166 (1 : Int32).toNatClampNeg) * w3)) + ((μ0.2 166 (2 : Int32).toNatClampNeg) * w4))), .long (a1)]) X (ok_R_floor l D ad cs hJ hw5) km_R_102 G ⟨by decide, by decide⟩ ⟨Nat.zero_le _, Nat.zero_le _⟩ rfl hl.1 rfl (Nat.le_of_ble_eq_true rfl) d_R_texelOf_66 (fun H locs G => ?_)
  refine lv_lstore (pc := 69) hx hb d_R_texelOf_69 hl (by decide) (lv' := [(4, .long (w5)), (2, .long (a1)), (0, .ref (ad 154)), (1, .int (x0))]) rfl (fun ls hl => ?_)
  refine lv_aload_n (pc := 71) hx hb d_R_texelOf_71 rfl (lv_at hl 2 rfl) ?_
  refine gf_R_44 (pc := 72) X G d_R_texelOf_72 ?_
  refine lv_iconst (pc := 75) (v := (0 : Int32)) hx hb d_R_texelOf_75 (by decide) ?_
  refine xs_lald (pc := 76) hx hb G la_166 (xs_inP (by decide)) d_R_texelOf_76 ?_
  refine lv_aload_n (pc := 77) hx hb d_R_texelOf_77 rfl (lv_at hl 2 rfl) ?_
  refine lv_iload_n (pc := 78) hx hb d_R_texelOf_78 rfl (lv_at hl 3 rfl) ?_
  refine lv_iconst (pc := 79) (v := (0 : Int32)) hx hb d_R_texelOf_79 (by decide) ?_
  refine lv_iconst (pc := 80) (v := (5 : Int32)) hx hb d_R_texelOf_80 (by decide) ?_
  obtain ⟨w6, hw6, hE⟩ := xs_b hE
  refine xs_callVr (pc := 81) (as := [.int (x0), .int ((0 : Int32)), .int ((5 : Int32))]) X (ok_R_placeOf l D ad cs hJ hw6) km_R_94 G (xs_wR ad cs _) rfl ⟨by decide, by decide⟩ ⟨Nat.zero_le _, Nat.zero_le _⟩ rfl hl.1 rfl (Nat.le_of_ble_eq_true rfl) d_R_texelOf_81 (fun H locs G => ?_)
  refine lv_lmul (pc := 84) hx hb d_R_texelOf_84 ?_
  refine lv_aload_n (pc := 85) hx hb d_R_texelOf_85 rfl (lv_at hl 2 rfl) ?_
  refine gf_R_44 (pc := 86) X G d_R_texelOf_86 ?_
  refine lv_iconst (pc := 89) (v := (1 : Int32)) hx hb d_R_texelOf_89 (by decide) ?_
  refine xs_lald (pc := 90) hx hb G la_166 (xs_inP (by decide)) d_R_texelOf_90 ?_
  refine lv_aload_n (pc := 91) hx hb d_R_texelOf_91 rfl (lv_at hl 2 rfl) ?_
  refine lv_iload_n (pc := 92) hx hb d_R_texelOf_92 rfl (lv_at hl 3 rfl) ?_
  refine lv_iconst (pc := 93) (v := (1 : Int32)) hx hb d_R_texelOf_93 (by decide) ?_
  refine lv_iconst (pc := 94) (v := (5 : Int32)) hx hb d_R_texelOf_94 (by decide) ?_
  obtain ⟨w7, hw7, hE⟩ := xs_b hE
  refine xs_callVr (pc := 95) (as := [.int (x0), .int ((1 : Int32)), .int ((5 : Int32))]) X (ok_R_placeOf l D ad cs hJ hw7) km_R_94 G (xs_wR ad cs _) rfl ⟨by decide, by decide⟩ ⟨Nat.zero_le _, Nat.zero_le _⟩ rfl hl.1 rfl (Nat.le_of_ble_eq_true rfl) d_R_texelOf_95 (fun H locs G => ?_)
  refine lv_lmul (pc := 98) hx hb d_R_texelOf_98 ?_
  refine lv_ladd (pc := 99) hx hb d_R_texelOf_99 ?_
  refine lv_aload_n (pc := 100) hx hb d_R_texelOf_100 rfl (lv_at hl 2 rfl) ?_
  refine gf_R_44 (pc := 101) X G d_R_texelOf_101 ?_
  refine lv_iconst (pc := 104) (v := (2 : Int32)) hx hb d_R_texelOf_104 (by decide) ?_
  refine xs_lald (pc := 105) hx hb G la_166 (xs_inP (by decide)) d_R_texelOf_105 ?_
  refine lv_aload_n (pc := 106) hx hb d_R_texelOf_106 rfl (lv_at hl 2 rfl) ?_
  refine lv_iload_n (pc := 107) hx hb d_R_texelOf_107 rfl (lv_at hl 3 rfl) ?_
  refine lv_iconst (pc := 108) (v := (2 : Int32)) hx hb d_R_texelOf_108 (by decide) ?_
  refine lv_iconst (pc := 109) (v := (5 : Int32)) hx hb d_R_texelOf_109 (by decide) ?_
  obtain ⟨w8, hw8, hE⟩ := xs_b hE
  refine xs_callVr (pc := 110) (as := [.int (x0), .int ((2 : Int32)), .int ((5 : Int32))]) X (ok_R_placeOf l D ad cs hJ hw8) km_R_94 G (xs_wR ad cs _) rfl ⟨by decide, by decide⟩ ⟨Nat.zero_le _, Nat.zero_le _⟩ rfl hl.1 rfl (Nat.le_of_ble_eq_true rfl) d_R_texelOf_110 (fun H locs G => ?_)
  refine lv_lmul (pc := 113) hx hb d_R_texelOf_113 ?_
  refine lv_ladd (pc := 114) hx hb d_R_texelOf_114 ?_
  refine lv_lload_n (pc := 115) hx hb d_R_texelOf_115 rfl (lv_at hl 1 rfl) ?_
  obtain ⟨w9, hw9, hE⟩ := xs_b hE
  refine xs_callSr (pc := 116) (as := [.long (((((μ0.2 166 (0 : Int32).toNatClampNeg) * w6) + ((μ0.2 166 (1 : Int32).toNatClampNeg) * w7)) + ((μ0.2 166 (2 : Int32).toNatClampNeg) * w8))), .long (a1)]) X (ok_R_floor l D ad cs hJ hw9) km_R_102 G ⟨by decide, by decide⟩ ⟨Nat.zero_le _, Nat.zero_le _⟩ rfl hl.1 rfl (Nat.le_of_ble_eq_true rfl) d_R_texelOf_116 (fun H locs G => ?_)
  refine lv_lstore (pc := 119) hx hb d_R_texelOf_119 hl (by decide) (lv' := [(6, .long (w9)), (4, .long (w5)), (2, .long (a1)), (0, .ref (ad 154)), (1, .int (x0))]) rfl (fun ls hl => ?_)
  refine lv_aload_n (pc := 121) hx hb d_R_texelOf_121 rfl (lv_at hl 3 rfl) ?_
  refine gf_R_28 (pc := 122) X G d_R_texelOf_122 ?_
  refine lv_iload_n (pc := 125) hx hb d_R_texelOf_125 rfl (lv_at hl 4 rfl) ?_
  obtain ⟨hi10, hE⟩ := xs_n hE
  refine xs_iald (pc := 126) hx hb G ia_161 (xs_inP hi10) d_R_texelOf_126 ?_
  refine lv_if_ne (pc := 127) (tgt := 140) hx hb d_R_texelOf_127 (by decide) (fun hc => ?_) (fun hc => ?_)
  · have hE := xs_f hE hc
    refine lv_lload (pc := 140) hx hb d_R_texelOf_140 (lv_at hl 1 rfl) ?_
    refine lv_lconst (pc := 142) (v := (0 : Int64)) hx hb d_R_texelOf_142 (by decide) ?_
    refine W.lcmp (pc := 143) hx hb d_R_texelOf_143 ?_
    refine lv_if_ge (pc := 144) (tgt := 151) hx hb d_R_texelOf_144 (by decide) (fun hc => ?_) (fun hc => ?_)
    · have hE := xs_t hE hc
      refine lv_lload (pc := 151) hx hb d_R_texelOf_151 (lv_at hl 1 rfl) ?_
      refine lv_ldc2 (pc := 153) (v := (7 : Int64)) hx hb X.2.2.2.1 (X.2.2.2.2.1 _ cl_R_106) d_R_texelOf_153 ?_
      refine W.lcmp (pc := 156) hx hb d_R_texelOf_156 ?_
      refine lv_if_le (pc := 157) (tgt := 165) hx hb d_R_texelOf_157 (by decide) (fun hc => ?_) (fun hc => ?_)
      · have hE := xs_t hE hc
        refine lv_lload (pc := 165) hx hb d_R_texelOf_165 (lv_at hl 1 rfl) ?_
        refine lv_l2i (pc := 167) hx hb d_R_texelOf_167 rfl ?_
        obtain ⟨a11, ha11, hE⟩ := xs_b hE
        refine xs_ti ha11 ?_
        clear ha11
        refine lv_istore (pc := 168) hx hb d_R_texelOf_168 hl (by decide) (lv' := [(8, .int (a11)), (6, .long (w9)), (4, .long (w5)), (2, .long (a1)), (0, .ref (ad 154)), (1, .int (x0))]) rfl (fun ls hl => ?_)
        refine lv_aload_n (pc := 170) hx hb d_R_texelOf_170 rfl (lv_at hl 4 rfl) ?_
        refine gf_R_28 (pc := 171) X G d_R_texelOf_171 ?_
        refine lv_iload_n (pc := 174) hx hb d_R_texelOf_174 rfl (lv_at hl 5 rfl) ?_
        obtain ⟨hi12, hE⟩ := xs_n hE
        refine xs_iald (pc := 175) hx hb G ia_161 (xs_inP hi12) d_R_texelOf_175 ?_
        refine lv_if_ne (pc := 176) (tgt := 189) hx hb d_R_texelOf_176 (by decide) (fun hc => ?_) (fun hc => ?_)
        · have hE := xs_f hE hc
          refine lv_lload (pc := 189) hx hb d_R_texelOf_189 (lv_at hl 1 rfl) ?_
          refine lv_lconst (pc := 191) (v := (0 : Int64)) hx hb d_R_texelOf_191 (by decide) ?_
          refine W.lcmp (pc := 192) hx hb d_R_texelOf_192 ?_
          refine lv_if_ge (pc := 193) (tgt := 200) hx hb d_R_texelOf_193 (by decide) (fun hc => ?_) (fun hc => ?_)
          · have hE := xs_t hE hc
            refine lv_lload (pc := 200) hx hb d_R_texelOf_200 (lv_at hl 1 rfl) ?_
            refine lv_ldc2 (pc := 202) (v := (7 : Int64)) hx hb X.2.2.2.1 (X.2.2.2.2.1 _ cl_R_106) d_R_texelOf_202 ?_
            refine W.lcmp (pc := 205) hx hb d_R_texelOf_205 ?_
            refine lv_if_le (pc := 206) (tgt := 214) hx hb d_R_texelOf_206 (by decide) (fun hc => ?_) (fun hc => ?_)
            · have hE := xs_t hE hc
              refine lv_lload (pc := 214) hx hb d_R_texelOf_214 (lv_at hl 1 rfl) ?_
              refine lv_l2i (pc := 216) hx hb d_R_texelOf_216 rfl ?_
              obtain ⟨a13, ha13, hE⟩ := xs_b hE
              refine xs_ti ha13 ?_
              clear ha13
              refine lv_istore (pc := 217) hx hb d_R_texelOf_217 hl (by decide) (lv' := [(9, .int (a13)), (8, .int (a11)), (6, .long (w9)), (4, .long (w5)), (2, .long (a1)), (0, .ref (ad 154)), (1, .int (x0))]) rfl (fun ls hl => ?_)
              refine lv_aload_n (pc := 219) hx hb d_R_texelOf_219 rfl (lv_at hl 5 rfl) ?_
              refine gf_R_19 (pc := 220) X G d_R_texelOf_220 ?_
              refine lv_bipush (pc := 223) (v := (64 : Int32)) hx hb d_R_texelOf_223 (by decide) ?_
              refine lv_aload_n (pc := 225) hx hb d_R_texelOf_225 rfl (lv_at hl 5 rfl) ?_
              refine gf_R_25 (pc := 226) X G d_R_texelOf_226 ?_
              refine lv_iload_n (pc := 229) hx hb d_R_texelOf_229 rfl (lv_at hl 6 rfl) ?_
              obtain ⟨hi14, hE⟩ := xs_n hE
              refine xs_iald (pc := 230) hx hb G ia_160 (xs_inP hi14) d_R_texelOf_230 ?_
              refine lv_imul (pc := 231) hx hb d_R_texelOf_231 ?_
              refine lv_bipush (pc := 232) (v := (8 : Int32)) hx hb d_R_texelOf_232 (by decide) ?_
              refine lv_iload (pc := 234) hx hb d_R_texelOf_234 (lv_at hl 1 rfl) ?_
              refine lv_imul (pc := 236) hx hb d_R_texelOf_236 ?_
              refine lv_iadd (pc := 237) hx hb d_R_texelOf_237 ?_
              refine lv_iload (pc := 238) hx hb d_R_texelOf_238 (lv_at hl 0 rfl) ?_
              refine lv_iadd (pc := 240) hx hb d_R_texelOf_240 ?_
              obtain ⟨hi15, hE⟩ := xs_n hE
              refine xs_iald (pc := 241) hx hb G ia_158 (xs_inP hi15) d_R_texelOf_241 ?_
              cases hE
              exact xs_iret (pc := 242) hx hb hr hlk G d_R_texelOf_242
            · have hE := xs_f hE hc
              refine lv_bipush (pc := 209) (v := (7 : Int32)) hx hb d_R_texelOf_209 (by decide) ?_
              refine lv_goto (pc := 211) (tgt := 217) hx hb d_R_texelOf_211 (by decide) ?_
              refine lv_istore (pc := 217) hx hb d_R_texelOf_217 hl (by decide) (lv' := [(9, .int ((7 : Int32))), (8, .int (a11)), (6, .long (w9)), (4, .long (w5)), (2, .long (a1)), (0, .ref (ad 154)), (1, .int (x0))]) rfl (fun ls hl => ?_)
              refine lv_aload_n (pc := 219) hx hb d_R_texelOf_219 rfl (lv_at hl 5 rfl) ?_
              refine gf_R_19 (pc := 220) X G d_R_texelOf_220 ?_
              refine lv_bipush (pc := 223) (v := (64 : Int32)) hx hb d_R_texelOf_223 (by decide) ?_
              refine lv_aload_n (pc := 225) hx hb d_R_texelOf_225 rfl (lv_at hl 5 rfl) ?_
              refine gf_R_25 (pc := 226) X G d_R_texelOf_226 ?_
              refine lv_iload_n (pc := 229) hx hb d_R_texelOf_229 rfl (lv_at hl 6 rfl) ?_
              obtain ⟨hi16, hE⟩ := xs_n hE
              refine xs_iald (pc := 230) hx hb G ia_160 (xs_inP hi16) d_R_texelOf_230 ?_
              refine lv_imul (pc := 231) hx hb d_R_texelOf_231 ?_
              refine lv_bipush (pc := 232) (v := (8 : Int32)) hx hb d_R_texelOf_232 (by decide) ?_
              refine lv_iload (pc := 234) hx hb d_R_texelOf_234 (lv_at hl 1 rfl) ?_
              refine lv_imul (pc := 236) hx hb d_R_texelOf_236 ?_
              refine lv_iadd (pc := 237) hx hb d_R_texelOf_237 ?_
              refine lv_iload (pc := 238) hx hb d_R_texelOf_238 (lv_at hl 0 rfl) ?_
              refine lv_iadd (pc := 240) hx hb d_R_texelOf_240 ?_
              obtain ⟨hi17, hE⟩ := xs_n hE
              refine xs_iald (pc := 241) hx hb G ia_158 (xs_inP hi17) d_R_texelOf_241 ?_
              cases hE
              exact xs_iret (pc := 242) hx hb hr hlk G d_R_texelOf_242
          · have hE := xs_f hE hc
            refine lv_iconst (pc := 196) (v := (0 : Int32)) hx hb d_R_texelOf_196 (by decide) ?_
            refine lv_goto (pc := 197) (tgt := 217) hx hb d_R_texelOf_197 (by decide) ?_
            refine lv_istore (pc := 217) hx hb d_R_texelOf_217 hl (by decide) (lv' := [(9, .int ((0 : Int32))), (8, .int (a11)), (6, .long (w9)), (4, .long (w5)), (2, .long (a1)), (0, .ref (ad 154)), (1, .int (x0))]) rfl (fun ls hl => ?_)
            refine lv_aload_n (pc := 219) hx hb d_R_texelOf_219 rfl (lv_at hl 5 rfl) ?_
            refine gf_R_19 (pc := 220) X G d_R_texelOf_220 ?_
            refine lv_bipush (pc := 223) (v := (64 : Int32)) hx hb d_R_texelOf_223 (by decide) ?_
            refine lv_aload_n (pc := 225) hx hb d_R_texelOf_225 rfl (lv_at hl 5 rfl) ?_
            refine gf_R_25 (pc := 226) X G d_R_texelOf_226 ?_
            refine lv_iload_n (pc := 229) hx hb d_R_texelOf_229 rfl (lv_at hl 6 rfl) ?_
            obtain ⟨hi18, hE⟩ := xs_n hE
            refine xs_iald (pc := 230) hx hb G ia_160 (xs_inP hi18) d_R_texelOf_230 ?_
            refine lv_imul (pc := 231) hx hb d_R_texelOf_231 ?_
            refine lv_bipush (pc := 232) (v := (8 : Int32)) hx hb d_R_texelOf_232 (by decide) ?_
            refine lv_iload (pc := 234) hx hb d_R_texelOf_234 (lv_at hl 1 rfl) ?_
            refine lv_imul (pc := 236) hx hb d_R_texelOf_236 ?_
            refine lv_iadd (pc := 237) hx hb d_R_texelOf_237 ?_
            refine lv_iload (pc := 238) hx hb d_R_texelOf_238 (lv_at hl 0 rfl) ?_
            refine lv_iadd (pc := 240) hx hb d_R_texelOf_240 ?_
            obtain ⟨hi19, hE⟩ := xs_n hE
            refine xs_iald (pc := 241) hx hb G ia_158 (xs_inP hi19) d_R_texelOf_241 ?_
            cases hE
            exact xs_iret (pc := 242) hx hb hr hlk G d_R_texelOf_242
        · have hE := xs_t hE hc
          refine lv_lload (pc := 179) hx hb d_R_texelOf_179 (lv_at hl 1 rfl) ?_
          refine lv_ldc2 (pc := 181) (v := (7 : Int64)) hx hb X.2.2.2.1 (X.2.2.2.2.1 _ cl_R_106) d_R_texelOf_181 ?_
          refine lv_land (pc := 184) hx hb d_R_texelOf_184 ?_
          refine lv_l2i (pc := 185) hx hb d_R_texelOf_185 rfl ?_
          refine lv_goto (pc := 186) (tgt := 217) hx hb d_R_texelOf_186 (by decide) ?_
          obtain ⟨a20, ha20, hE⟩ := xs_b hE
          refine xs_ti ha20 ?_
          clear ha20
          refine lv_istore (pc := 217) hx hb d_R_texelOf_217 hl (by decide) (lv' := [(9, .int (a20)), (8, .int (a11)), (6, .long (w9)), (4, .long (w5)), (2, .long (a1)), (0, .ref (ad 154)), (1, .int (x0))]) rfl (fun ls hl => ?_)
          refine lv_aload_n (pc := 219) hx hb d_R_texelOf_219 rfl (lv_at hl 5 rfl) ?_
          refine gf_R_19 (pc := 220) X G d_R_texelOf_220 ?_
          refine lv_bipush (pc := 223) (v := (64 : Int32)) hx hb d_R_texelOf_223 (by decide) ?_
          refine lv_aload_n (pc := 225) hx hb d_R_texelOf_225 rfl (lv_at hl 5 rfl) ?_
          refine gf_R_25 (pc := 226) X G d_R_texelOf_226 ?_
          refine lv_iload_n (pc := 229) hx hb d_R_texelOf_229 rfl (lv_at hl 6 rfl) ?_
          obtain ⟨hi21, hE⟩ := xs_n hE
          refine xs_iald (pc := 230) hx hb G ia_160 (xs_inP hi21) d_R_texelOf_230 ?_
          refine lv_imul (pc := 231) hx hb d_R_texelOf_231 ?_
          refine lv_bipush (pc := 232) (v := (8 : Int32)) hx hb d_R_texelOf_232 (by decide) ?_
          refine lv_iload (pc := 234) hx hb d_R_texelOf_234 (lv_at hl 1 rfl) ?_
          refine lv_imul (pc := 236) hx hb d_R_texelOf_236 ?_
          refine lv_iadd (pc := 237) hx hb d_R_texelOf_237 ?_
          refine lv_iload (pc := 238) hx hb d_R_texelOf_238 (lv_at hl 0 rfl) ?_
          refine lv_iadd (pc := 240) hx hb d_R_texelOf_240 ?_
          obtain ⟨hi22, hE⟩ := xs_n hE
          refine xs_iald (pc := 241) hx hb G ia_158 (xs_inP hi22) d_R_texelOf_241 ?_
          cases hE
          exact xs_iret (pc := 242) hx hb hr hlk G d_R_texelOf_242
      · have hE := xs_f hE hc
        refine lv_bipush (pc := 160) (v := (7 : Int32)) hx hb d_R_texelOf_160 (by decide) ?_
        refine lv_goto (pc := 162) (tgt := 168) hx hb d_R_texelOf_162 (by decide) ?_
        refine lv_istore (pc := 168) hx hb d_R_texelOf_168 hl (by decide) (lv' := [(8, .int ((7 : Int32))), (6, .long (w9)), (4, .long (w5)), (2, .long (a1)), (0, .ref (ad 154)), (1, .int (x0))]) rfl (fun ls hl => ?_)
        refine lv_aload_n (pc := 170) hx hb d_R_texelOf_170 rfl (lv_at hl 4 rfl) ?_
        refine gf_R_28 (pc := 171) X G d_R_texelOf_171 ?_
        refine lv_iload_n (pc := 174) hx hb d_R_texelOf_174 rfl (lv_at hl 5 rfl) ?_
        obtain ⟨hi23, hE⟩ := xs_n hE
        refine xs_iald (pc := 175) hx hb G ia_161 (xs_inP hi23) d_R_texelOf_175 ?_
        refine lv_if_ne (pc := 176) (tgt := 189) hx hb d_R_texelOf_176 (by decide) (fun hc => ?_) (fun hc => ?_)
        · have hE := xs_f hE hc
          refine lv_lload (pc := 189) hx hb d_R_texelOf_189 (lv_at hl 1 rfl) ?_
          refine lv_lconst (pc := 191) (v := (0 : Int64)) hx hb d_R_texelOf_191 (by decide) ?_
          refine W.lcmp (pc := 192) hx hb d_R_texelOf_192 ?_
          refine lv_if_ge (pc := 193) (tgt := 200) hx hb d_R_texelOf_193 (by decide) (fun hc => ?_) (fun hc => ?_)
          · have hE := xs_t hE hc
            refine lv_lload (pc := 200) hx hb d_R_texelOf_200 (lv_at hl 1 rfl) ?_
            refine lv_ldc2 (pc := 202) (v := (7 : Int64)) hx hb X.2.2.2.1 (X.2.2.2.2.1 _ cl_R_106) d_R_texelOf_202 ?_
            refine W.lcmp (pc := 205) hx hb d_R_texelOf_205 ?_
            refine lv_if_le (pc := 206) (tgt := 214) hx hb d_R_texelOf_206 (by decide) (fun hc => ?_) (fun hc => ?_)
            · have hE := xs_t hE hc
              refine lv_lload (pc := 214) hx hb d_R_texelOf_214 (lv_at hl 1 rfl) ?_
              refine lv_l2i (pc := 216) hx hb d_R_texelOf_216 rfl ?_
              obtain ⟨a24, ha24, hE⟩ := xs_b hE
              refine xs_ti ha24 ?_
              clear ha24
              refine lv_istore (pc := 217) hx hb d_R_texelOf_217 hl (by decide) (lv' := [(9, .int (a24)), (8, .int ((7 : Int32))), (6, .long (w9)), (4, .long (w5)), (2, .long (a1)), (0, .ref (ad 154)), (1, .int (x0))]) rfl (fun ls hl => ?_)
              refine lv_aload_n (pc := 219) hx hb d_R_texelOf_219 rfl (lv_at hl 5 rfl) ?_
              refine gf_R_19 (pc := 220) X G d_R_texelOf_220 ?_
              refine lv_bipush (pc := 223) (v := (64 : Int32)) hx hb d_R_texelOf_223 (by decide) ?_
              refine lv_aload_n (pc := 225) hx hb d_R_texelOf_225 rfl (lv_at hl 5 rfl) ?_
              refine gf_R_25 (pc := 226) X G d_R_texelOf_226 ?_
              refine lv_iload_n (pc := 229) hx hb d_R_texelOf_229 rfl (lv_at hl 6 rfl) ?_
              obtain ⟨hi25, hE⟩ := xs_n hE
              refine xs_iald (pc := 230) hx hb G ia_160 (xs_inP hi25) d_R_texelOf_230 ?_
              refine lv_imul (pc := 231) hx hb d_R_texelOf_231 ?_
              refine lv_bipush (pc := 232) (v := (8 : Int32)) hx hb d_R_texelOf_232 (by decide) ?_
              refine lv_iload (pc := 234) hx hb d_R_texelOf_234 (lv_at hl 1 rfl) ?_
              refine lv_imul (pc := 236) hx hb d_R_texelOf_236 ?_
              refine lv_iadd (pc := 237) hx hb d_R_texelOf_237 ?_
              refine lv_iload (pc := 238) hx hb d_R_texelOf_238 (lv_at hl 0 rfl) ?_
              refine lv_iadd (pc := 240) hx hb d_R_texelOf_240 ?_
              obtain ⟨hi26, hE⟩ := xs_n hE
              refine xs_iald (pc := 241) hx hb G ia_158 (xs_inP hi26) d_R_texelOf_241 ?_
              cases hE
              exact xs_iret (pc := 242) hx hb hr hlk G d_R_texelOf_242
            · have hE := xs_f hE hc
              refine lv_bipush (pc := 209) (v := (7 : Int32)) hx hb d_R_texelOf_209 (by decide) ?_
              refine lv_goto (pc := 211) (tgt := 217) hx hb d_R_texelOf_211 (by decide) ?_
              refine lv_istore (pc := 217) hx hb d_R_texelOf_217 hl (by decide) (lv' := [(9, .int ((7 : Int32))), (8, .int ((7 : Int32))), (6, .long (w9)), (4, .long (w5)), (2, .long (a1)), (0, .ref (ad 154)), (1, .int (x0))]) rfl (fun ls hl => ?_)
              refine lv_aload_n (pc := 219) hx hb d_R_texelOf_219 rfl (lv_at hl 5 rfl) ?_
              refine gf_R_19 (pc := 220) X G d_R_texelOf_220 ?_
              refine lv_bipush (pc := 223) (v := (64 : Int32)) hx hb d_R_texelOf_223 (by decide) ?_
              refine lv_aload_n (pc := 225) hx hb d_R_texelOf_225 rfl (lv_at hl 5 rfl) ?_
              refine gf_R_25 (pc := 226) X G d_R_texelOf_226 ?_
              refine lv_iload_n (pc := 229) hx hb d_R_texelOf_229 rfl (lv_at hl 6 rfl) ?_
              obtain ⟨hi27, hE⟩ := xs_n hE
              refine xs_iald (pc := 230) hx hb G ia_160 (xs_inP hi27) d_R_texelOf_230 ?_
              refine lv_imul (pc := 231) hx hb d_R_texelOf_231 ?_
              refine lv_bipush (pc := 232) (v := (8 : Int32)) hx hb d_R_texelOf_232 (by decide) ?_
              refine lv_iload (pc := 234) hx hb d_R_texelOf_234 (lv_at hl 1 rfl) ?_
              refine lv_imul (pc := 236) hx hb d_R_texelOf_236 ?_
              refine lv_iadd (pc := 237) hx hb d_R_texelOf_237 ?_
              refine lv_iload (pc := 238) hx hb d_R_texelOf_238 (lv_at hl 0 rfl) ?_
              refine lv_iadd (pc := 240) hx hb d_R_texelOf_240 ?_
              obtain ⟨hi28, hE⟩ := xs_n hE
              refine xs_iald (pc := 241) hx hb G ia_158 (xs_inP hi28) d_R_texelOf_241 ?_
              cases hE
              exact xs_iret (pc := 242) hx hb hr hlk G d_R_texelOf_242
          · have hE := xs_f hE hc
            refine lv_iconst (pc := 196) (v := (0 : Int32)) hx hb d_R_texelOf_196 (by decide) ?_
            refine lv_goto (pc := 197) (tgt := 217) hx hb d_R_texelOf_197 (by decide) ?_
            refine lv_istore (pc := 217) hx hb d_R_texelOf_217 hl (by decide) (lv' := [(9, .int ((0 : Int32))), (8, .int ((7 : Int32))), (6, .long (w9)), (4, .long (w5)), (2, .long (a1)), (0, .ref (ad 154)), (1, .int (x0))]) rfl (fun ls hl => ?_)
            refine lv_aload_n (pc := 219) hx hb d_R_texelOf_219 rfl (lv_at hl 5 rfl) ?_
            refine gf_R_19 (pc := 220) X G d_R_texelOf_220 ?_
            refine lv_bipush (pc := 223) (v := (64 : Int32)) hx hb d_R_texelOf_223 (by decide) ?_
            refine lv_aload_n (pc := 225) hx hb d_R_texelOf_225 rfl (lv_at hl 5 rfl) ?_
            refine gf_R_25 (pc := 226) X G d_R_texelOf_226 ?_
            refine lv_iload_n (pc := 229) hx hb d_R_texelOf_229 rfl (lv_at hl 6 rfl) ?_
            obtain ⟨hi29, hE⟩ := xs_n hE
            refine xs_iald (pc := 230) hx hb G ia_160 (xs_inP hi29) d_R_texelOf_230 ?_
            refine lv_imul (pc := 231) hx hb d_R_texelOf_231 ?_
            refine lv_bipush (pc := 232) (v := (8 : Int32)) hx hb d_R_texelOf_232 (by decide) ?_
            refine lv_iload (pc := 234) hx hb d_R_texelOf_234 (lv_at hl 1 rfl) ?_
            refine lv_imul (pc := 236) hx hb d_R_texelOf_236 ?_
            refine lv_iadd (pc := 237) hx hb d_R_texelOf_237 ?_
            refine lv_iload (pc := 238) hx hb d_R_texelOf_238 (lv_at hl 0 rfl) ?_
            refine lv_iadd (pc := 240) hx hb d_R_texelOf_240 ?_
            obtain ⟨hi30, hE⟩ := xs_n hE
            refine xs_iald (pc := 241) hx hb G ia_158 (xs_inP hi30) d_R_texelOf_241 ?_
            cases hE
            exact xs_iret (pc := 242) hx hb hr hlk G d_R_texelOf_242
        · have hE := xs_t hE hc
          refine lv_lload (pc := 179) hx hb d_R_texelOf_179 (lv_at hl 1 rfl) ?_
          refine lv_ldc2 (pc := 181) (v := (7 : Int64)) hx hb X.2.2.2.1 (X.2.2.2.2.1 _ cl_R_106) d_R_texelOf_181 ?_
          refine lv_land (pc := 184) hx hb d_R_texelOf_184 ?_
          refine lv_l2i (pc := 185) hx hb d_R_texelOf_185 rfl ?_
          refine lv_goto (pc := 186) (tgt := 217) hx hb d_R_texelOf_186 (by decide) ?_
          obtain ⟨a31, ha31, hE⟩ := xs_b hE
          refine xs_ti ha31 ?_
          clear ha31
          refine lv_istore (pc := 217) hx hb d_R_texelOf_217 hl (by decide) (lv' := [(9, .int (a31)), (8, .int ((7 : Int32))), (6, .long (w9)), (4, .long (w5)), (2, .long (a1)), (0, .ref (ad 154)), (1, .int (x0))]) rfl (fun ls hl => ?_)
          refine lv_aload_n (pc := 219) hx hb d_R_texelOf_219 rfl (lv_at hl 5 rfl) ?_
          refine gf_R_19 (pc := 220) X G d_R_texelOf_220 ?_
          refine lv_bipush (pc := 223) (v := (64 : Int32)) hx hb d_R_texelOf_223 (by decide) ?_
          refine lv_aload_n (pc := 225) hx hb d_R_texelOf_225 rfl (lv_at hl 5 rfl) ?_
          refine gf_R_25 (pc := 226) X G d_R_texelOf_226 ?_
          refine lv_iload_n (pc := 229) hx hb d_R_texelOf_229 rfl (lv_at hl 6 rfl) ?_
          obtain ⟨hi32, hE⟩ := xs_n hE
          refine xs_iald (pc := 230) hx hb G ia_160 (xs_inP hi32) d_R_texelOf_230 ?_
          refine lv_imul (pc := 231) hx hb d_R_texelOf_231 ?_
          refine lv_bipush (pc := 232) (v := (8 : Int32)) hx hb d_R_texelOf_232 (by decide) ?_
          refine lv_iload (pc := 234) hx hb d_R_texelOf_234 (lv_at hl 1 rfl) ?_
          refine lv_imul (pc := 236) hx hb d_R_texelOf_236 ?_
          refine lv_iadd (pc := 237) hx hb d_R_texelOf_237 ?_
          refine lv_iload (pc := 238) hx hb d_R_texelOf_238 (lv_at hl 0 rfl) ?_
          refine lv_iadd (pc := 240) hx hb d_R_texelOf_240 ?_
          obtain ⟨hi33, hE⟩ := xs_n hE
          refine xs_iald (pc := 241) hx hb G ia_158 (xs_inP hi33) d_R_texelOf_241 ?_
          cases hE
          exact xs_iret (pc := 242) hx hb hr hlk G d_R_texelOf_242
    · have hE := xs_f hE hc
      refine lv_iconst (pc := 147) (v := (0 : Int32)) hx hb d_R_texelOf_147 (by decide) ?_
      refine lv_goto (pc := 148) (tgt := 168) hx hb d_R_texelOf_148 (by decide) ?_
      refine lv_istore (pc := 168) hx hb d_R_texelOf_168 hl (by decide) (lv' := [(8, .int ((0 : Int32))), (6, .long (w9)), (4, .long (w5)), (2, .long (a1)), (0, .ref (ad 154)), (1, .int (x0))]) rfl (fun ls hl => ?_)
      refine lv_aload_n (pc := 170) hx hb d_R_texelOf_170 rfl (lv_at hl 4 rfl) ?_
      refine gf_R_28 (pc := 171) X G d_R_texelOf_171 ?_
      refine lv_iload_n (pc := 174) hx hb d_R_texelOf_174 rfl (lv_at hl 5 rfl) ?_
      obtain ⟨hi34, hE⟩ := xs_n hE
      refine xs_iald (pc := 175) hx hb G ia_161 (xs_inP hi34) d_R_texelOf_175 ?_
      refine lv_if_ne (pc := 176) (tgt := 189) hx hb d_R_texelOf_176 (by decide) (fun hc => ?_) (fun hc => ?_)
      · have hE := xs_f hE hc
        refine lv_lload (pc := 189) hx hb d_R_texelOf_189 (lv_at hl 1 rfl) ?_
        refine lv_lconst (pc := 191) (v := (0 : Int64)) hx hb d_R_texelOf_191 (by decide) ?_
        refine W.lcmp (pc := 192) hx hb d_R_texelOf_192 ?_
        refine lv_if_ge (pc := 193) (tgt := 200) hx hb d_R_texelOf_193 (by decide) (fun hc => ?_) (fun hc => ?_)
        · have hE := xs_t hE hc
          refine lv_lload (pc := 200) hx hb d_R_texelOf_200 (lv_at hl 1 rfl) ?_
          refine lv_ldc2 (pc := 202) (v := (7 : Int64)) hx hb X.2.2.2.1 (X.2.2.2.2.1 _ cl_R_106) d_R_texelOf_202 ?_
          refine W.lcmp (pc := 205) hx hb d_R_texelOf_205 ?_
          refine lv_if_le (pc := 206) (tgt := 214) hx hb d_R_texelOf_206 (by decide) (fun hc => ?_) (fun hc => ?_)
          · have hE := xs_t hE hc
            refine lv_lload (pc := 214) hx hb d_R_texelOf_214 (lv_at hl 1 rfl) ?_
            refine lv_l2i (pc := 216) hx hb d_R_texelOf_216 rfl ?_
            obtain ⟨a35, ha35, hE⟩ := xs_b hE
            refine xs_ti ha35 ?_
            clear ha35
            refine lv_istore (pc := 217) hx hb d_R_texelOf_217 hl (by decide) (lv' := [(9, .int (a35)), (8, .int ((0 : Int32))), (6, .long (w9)), (4, .long (w5)), (2, .long (a1)), (0, .ref (ad 154)), (1, .int (x0))]) rfl (fun ls hl => ?_)
            refine lv_aload_n (pc := 219) hx hb d_R_texelOf_219 rfl (lv_at hl 5 rfl) ?_
            refine gf_R_19 (pc := 220) X G d_R_texelOf_220 ?_
            refine lv_bipush (pc := 223) (v := (64 : Int32)) hx hb d_R_texelOf_223 (by decide) ?_
            refine lv_aload_n (pc := 225) hx hb d_R_texelOf_225 rfl (lv_at hl 5 rfl) ?_
            refine gf_R_25 (pc := 226) X G d_R_texelOf_226 ?_
            refine lv_iload_n (pc := 229) hx hb d_R_texelOf_229 rfl (lv_at hl 6 rfl) ?_
            obtain ⟨hi36, hE⟩ := xs_n hE
            refine xs_iald (pc := 230) hx hb G ia_160 (xs_inP hi36) d_R_texelOf_230 ?_
            refine lv_imul (pc := 231) hx hb d_R_texelOf_231 ?_
            refine lv_bipush (pc := 232) (v := (8 : Int32)) hx hb d_R_texelOf_232 (by decide) ?_
            refine lv_iload (pc := 234) hx hb d_R_texelOf_234 (lv_at hl 1 rfl) ?_
            refine lv_imul (pc := 236) hx hb d_R_texelOf_236 ?_
            refine lv_iadd (pc := 237) hx hb d_R_texelOf_237 ?_
            refine lv_iload (pc := 238) hx hb d_R_texelOf_238 (lv_at hl 0 rfl) ?_
            refine lv_iadd (pc := 240) hx hb d_R_texelOf_240 ?_
            obtain ⟨hi37, hE⟩ := xs_n hE
            refine xs_iald (pc := 241) hx hb G ia_158 (xs_inP hi37) d_R_texelOf_241 ?_
            cases hE
            exact xs_iret (pc := 242) hx hb hr hlk G d_R_texelOf_242
          · have hE := xs_f hE hc
            refine lv_bipush (pc := 209) (v := (7 : Int32)) hx hb d_R_texelOf_209 (by decide) ?_
            refine lv_goto (pc := 211) (tgt := 217) hx hb d_R_texelOf_211 (by decide) ?_
            refine lv_istore (pc := 217) hx hb d_R_texelOf_217 hl (by decide) (lv' := [(9, .int ((7 : Int32))), (8, .int ((0 : Int32))), (6, .long (w9)), (4, .long (w5)), (2, .long (a1)), (0, .ref (ad 154)), (1, .int (x0))]) rfl (fun ls hl => ?_)
            refine lv_aload_n (pc := 219) hx hb d_R_texelOf_219 rfl (lv_at hl 5 rfl) ?_
            refine gf_R_19 (pc := 220) X G d_R_texelOf_220 ?_
            refine lv_bipush (pc := 223) (v := (64 : Int32)) hx hb d_R_texelOf_223 (by decide) ?_
            refine lv_aload_n (pc := 225) hx hb d_R_texelOf_225 rfl (lv_at hl 5 rfl) ?_
            refine gf_R_25 (pc := 226) X G d_R_texelOf_226 ?_
            refine lv_iload_n (pc := 229) hx hb d_R_texelOf_229 rfl (lv_at hl 6 rfl) ?_
            obtain ⟨hi38, hE⟩ := xs_n hE
            refine xs_iald (pc := 230) hx hb G ia_160 (xs_inP hi38) d_R_texelOf_230 ?_
            refine lv_imul (pc := 231) hx hb d_R_texelOf_231 ?_
            refine lv_bipush (pc := 232) (v := (8 : Int32)) hx hb d_R_texelOf_232 (by decide) ?_
            refine lv_iload (pc := 234) hx hb d_R_texelOf_234 (lv_at hl 1 rfl) ?_
            refine lv_imul (pc := 236) hx hb d_R_texelOf_236 ?_
            refine lv_iadd (pc := 237) hx hb d_R_texelOf_237 ?_
            refine lv_iload (pc := 238) hx hb d_R_texelOf_238 (lv_at hl 0 rfl) ?_
            refine lv_iadd (pc := 240) hx hb d_R_texelOf_240 ?_
            obtain ⟨hi39, hE⟩ := xs_n hE
            refine xs_iald (pc := 241) hx hb G ia_158 (xs_inP hi39) d_R_texelOf_241 ?_
            cases hE
            exact xs_iret (pc := 242) hx hb hr hlk G d_R_texelOf_242
        · have hE := xs_f hE hc
          refine lv_iconst (pc := 196) (v := (0 : Int32)) hx hb d_R_texelOf_196 (by decide) ?_
          refine lv_goto (pc := 197) (tgt := 217) hx hb d_R_texelOf_197 (by decide) ?_
          refine lv_istore (pc := 217) hx hb d_R_texelOf_217 hl (by decide) (lv' := [(9, .int ((0 : Int32))), (8, .int ((0 : Int32))), (6, .long (w9)), (4, .long (w5)), (2, .long (a1)), (0, .ref (ad 154)), (1, .int (x0))]) rfl (fun ls hl => ?_)
          refine lv_aload_n (pc := 219) hx hb d_R_texelOf_219 rfl (lv_at hl 5 rfl) ?_
          refine gf_R_19 (pc := 220) X G d_R_texelOf_220 ?_
          refine lv_bipush (pc := 223) (v := (64 : Int32)) hx hb d_R_texelOf_223 (by decide) ?_
          refine lv_aload_n (pc := 225) hx hb d_R_texelOf_225 rfl (lv_at hl 5 rfl) ?_
          refine gf_R_25 (pc := 226) X G d_R_texelOf_226 ?_
          refine lv_iload_n (pc := 229) hx hb d_R_texelOf_229 rfl (lv_at hl 6 rfl) ?_
          obtain ⟨hi40, hE⟩ := xs_n hE
          refine xs_iald (pc := 230) hx hb G ia_160 (xs_inP hi40) d_R_texelOf_230 ?_
          refine lv_imul (pc := 231) hx hb d_R_texelOf_231 ?_
          refine lv_bipush (pc := 232) (v := (8 : Int32)) hx hb d_R_texelOf_232 (by decide) ?_
          refine lv_iload (pc := 234) hx hb d_R_texelOf_234 (lv_at hl 1 rfl) ?_
          refine lv_imul (pc := 236) hx hb d_R_texelOf_236 ?_
          refine lv_iadd (pc := 237) hx hb d_R_texelOf_237 ?_
          refine lv_iload (pc := 238) hx hb d_R_texelOf_238 (lv_at hl 0 rfl) ?_
          refine lv_iadd (pc := 240) hx hb d_R_texelOf_240 ?_
          obtain ⟨hi41, hE⟩ := xs_n hE
          refine xs_iald (pc := 241) hx hb G ia_158 (xs_inP hi41) d_R_texelOf_241 ?_
          cases hE
          exact xs_iret (pc := 242) hx hb hr hlk G d_R_texelOf_242
      · have hE := xs_t hE hc
        refine lv_lload (pc := 179) hx hb d_R_texelOf_179 (lv_at hl 1 rfl) ?_
        refine lv_ldc2 (pc := 181) (v := (7 : Int64)) hx hb X.2.2.2.1 (X.2.2.2.2.1 _ cl_R_106) d_R_texelOf_181 ?_
        refine lv_land (pc := 184) hx hb d_R_texelOf_184 ?_
        refine lv_l2i (pc := 185) hx hb d_R_texelOf_185 rfl ?_
        refine lv_goto (pc := 186) (tgt := 217) hx hb d_R_texelOf_186 (by decide) ?_
        obtain ⟨a42, ha42, hE⟩ := xs_b hE
        refine xs_ti ha42 ?_
        clear ha42
        refine lv_istore (pc := 217) hx hb d_R_texelOf_217 hl (by decide) (lv' := [(9, .int (a42)), (8, .int ((0 : Int32))), (6, .long (w9)), (4, .long (w5)), (2, .long (a1)), (0, .ref (ad 154)), (1, .int (x0))]) rfl (fun ls hl => ?_)
        refine lv_aload_n (pc := 219) hx hb d_R_texelOf_219 rfl (lv_at hl 5 rfl) ?_
        refine gf_R_19 (pc := 220) X G d_R_texelOf_220 ?_
        refine lv_bipush (pc := 223) (v := (64 : Int32)) hx hb d_R_texelOf_223 (by decide) ?_
        refine lv_aload_n (pc := 225) hx hb d_R_texelOf_225 rfl (lv_at hl 5 rfl) ?_
        refine gf_R_25 (pc := 226) X G d_R_texelOf_226 ?_
        refine lv_iload_n (pc := 229) hx hb d_R_texelOf_229 rfl (lv_at hl 6 rfl) ?_
        obtain ⟨hi43, hE⟩ := xs_n hE
        refine xs_iald (pc := 230) hx hb G ia_160 (xs_inP hi43) d_R_texelOf_230 ?_
        refine lv_imul (pc := 231) hx hb d_R_texelOf_231 ?_
        refine lv_bipush (pc := 232) (v := (8 : Int32)) hx hb d_R_texelOf_232 (by decide) ?_
        refine lv_iload (pc := 234) hx hb d_R_texelOf_234 (lv_at hl 1 rfl) ?_
        refine lv_imul (pc := 236) hx hb d_R_texelOf_236 ?_
        refine lv_iadd (pc := 237) hx hb d_R_texelOf_237 ?_
        refine lv_iload (pc := 238) hx hb d_R_texelOf_238 (lv_at hl 0 rfl) ?_
        refine lv_iadd (pc := 240) hx hb d_R_texelOf_240 ?_
        obtain ⟨hi44, hE⟩ := xs_n hE
        refine xs_iald (pc := 241) hx hb G ia_158 (xs_inP hi44) d_R_texelOf_241 ?_
        cases hE
        exact xs_iret (pc := 242) hx hb hr hlk G d_R_texelOf_242
  · have hE := xs_t hE hc
    refine lv_lload (pc := 130) hx hb d_R_texelOf_130 (lv_at hl 1 rfl) ?_
    refine lv_ldc2 (pc := 132) (v := (7 : Int64)) hx hb X.2.2.2.1 (X.2.2.2.2.1 _ cl_R_106) d_R_texelOf_132 ?_
    refine lv_land (pc := 135) hx hb d_R_texelOf_135 ?_
    refine lv_l2i (pc := 136) hx hb d_R_texelOf_136 rfl ?_
    refine lv_goto (pc := 137) (tgt := 168) hx hb d_R_texelOf_137 (by decide) ?_
    obtain ⟨a45, ha45, hE⟩ := xs_b hE
    refine xs_ti ha45 ?_
    clear ha45
    refine lv_istore (pc := 168) hx hb d_R_texelOf_168 hl (by decide) (lv' := [(8, .int (a45)), (6, .long (w9)), (4, .long (w5)), (2, .long (a1)), (0, .ref (ad 154)), (1, .int (x0))]) rfl (fun ls hl => ?_)
    refine lv_aload_n (pc := 170) hx hb d_R_texelOf_170 rfl (lv_at hl 4 rfl) ?_
    refine gf_R_28 (pc := 171) X G d_R_texelOf_171 ?_
    refine lv_iload_n (pc := 174) hx hb d_R_texelOf_174 rfl (lv_at hl 5 rfl) ?_
    obtain ⟨hi46, hE⟩ := xs_n hE
    refine xs_iald (pc := 175) hx hb G ia_161 (xs_inP hi46) d_R_texelOf_175 ?_
    refine lv_if_ne (pc := 176) (tgt := 189) hx hb d_R_texelOf_176 (by decide) (fun hc => ?_) (fun hc => ?_)
    · have hE := xs_f hE hc
      refine lv_lload (pc := 189) hx hb d_R_texelOf_189 (lv_at hl 1 rfl) ?_
      refine lv_lconst (pc := 191) (v := (0 : Int64)) hx hb d_R_texelOf_191 (by decide) ?_
      refine W.lcmp (pc := 192) hx hb d_R_texelOf_192 ?_
      refine lv_if_ge (pc := 193) (tgt := 200) hx hb d_R_texelOf_193 (by decide) (fun hc => ?_) (fun hc => ?_)
      · have hE := xs_t hE hc
        refine lv_lload (pc := 200) hx hb d_R_texelOf_200 (lv_at hl 1 rfl) ?_
        refine lv_ldc2 (pc := 202) (v := (7 : Int64)) hx hb X.2.2.2.1 (X.2.2.2.2.1 _ cl_R_106) d_R_texelOf_202 ?_
        refine W.lcmp (pc := 205) hx hb d_R_texelOf_205 ?_
        refine lv_if_le (pc := 206) (tgt := 214) hx hb d_R_texelOf_206 (by decide) (fun hc => ?_) (fun hc => ?_)
        · have hE := xs_t hE hc
          refine lv_lload (pc := 214) hx hb d_R_texelOf_214 (lv_at hl 1 rfl) ?_
          refine lv_l2i (pc := 216) hx hb d_R_texelOf_216 rfl ?_
          obtain ⟨a47, ha47, hE⟩ := xs_b hE
          refine xs_ti ha47 ?_
          clear ha47
          refine lv_istore (pc := 217) hx hb d_R_texelOf_217 hl (by decide) (lv' := [(9, .int (a47)), (8, .int (a45)), (6, .long (w9)), (4, .long (w5)), (2, .long (a1)), (0, .ref (ad 154)), (1, .int (x0))]) rfl (fun ls hl => ?_)
          refine lv_aload_n (pc := 219) hx hb d_R_texelOf_219 rfl (lv_at hl 5 rfl) ?_
          refine gf_R_19 (pc := 220) X G d_R_texelOf_220 ?_
          refine lv_bipush (pc := 223) (v := (64 : Int32)) hx hb d_R_texelOf_223 (by decide) ?_
          refine lv_aload_n (pc := 225) hx hb d_R_texelOf_225 rfl (lv_at hl 5 rfl) ?_
          refine gf_R_25 (pc := 226) X G d_R_texelOf_226 ?_
          refine lv_iload_n (pc := 229) hx hb d_R_texelOf_229 rfl (lv_at hl 6 rfl) ?_
          obtain ⟨hi48, hE⟩ := xs_n hE
          refine xs_iald (pc := 230) hx hb G ia_160 (xs_inP hi48) d_R_texelOf_230 ?_
          refine lv_imul (pc := 231) hx hb d_R_texelOf_231 ?_
          refine lv_bipush (pc := 232) (v := (8 : Int32)) hx hb d_R_texelOf_232 (by decide) ?_
          refine lv_iload (pc := 234) hx hb d_R_texelOf_234 (lv_at hl 1 rfl) ?_
          refine lv_imul (pc := 236) hx hb d_R_texelOf_236 ?_
          refine lv_iadd (pc := 237) hx hb d_R_texelOf_237 ?_
          refine lv_iload (pc := 238) hx hb d_R_texelOf_238 (lv_at hl 0 rfl) ?_
          refine lv_iadd (pc := 240) hx hb d_R_texelOf_240 ?_
          obtain ⟨hi49, hE⟩ := xs_n hE
          refine xs_iald (pc := 241) hx hb G ia_158 (xs_inP hi49) d_R_texelOf_241 ?_
          cases hE
          exact xs_iret (pc := 242) hx hb hr hlk G d_R_texelOf_242
        · have hE := xs_f hE hc
          refine lv_bipush (pc := 209) (v := (7 : Int32)) hx hb d_R_texelOf_209 (by decide) ?_
          refine lv_goto (pc := 211) (tgt := 217) hx hb d_R_texelOf_211 (by decide) ?_
          refine lv_istore (pc := 217) hx hb d_R_texelOf_217 hl (by decide) (lv' := [(9, .int ((7 : Int32))), (8, .int (a45)), (6, .long (w9)), (4, .long (w5)), (2, .long (a1)), (0, .ref (ad 154)), (1, .int (x0))]) rfl (fun ls hl => ?_)
          refine lv_aload_n (pc := 219) hx hb d_R_texelOf_219 rfl (lv_at hl 5 rfl) ?_
          refine gf_R_19 (pc := 220) X G d_R_texelOf_220 ?_
          refine lv_bipush (pc := 223) (v := (64 : Int32)) hx hb d_R_texelOf_223 (by decide) ?_
          refine lv_aload_n (pc := 225) hx hb d_R_texelOf_225 rfl (lv_at hl 5 rfl) ?_
          refine gf_R_25 (pc := 226) X G d_R_texelOf_226 ?_
          refine lv_iload_n (pc := 229) hx hb d_R_texelOf_229 rfl (lv_at hl 6 rfl) ?_
          obtain ⟨hi50, hE⟩ := xs_n hE
          refine xs_iald (pc := 230) hx hb G ia_160 (xs_inP hi50) d_R_texelOf_230 ?_
          refine lv_imul (pc := 231) hx hb d_R_texelOf_231 ?_
          refine lv_bipush (pc := 232) (v := (8 : Int32)) hx hb d_R_texelOf_232 (by decide) ?_
          refine lv_iload (pc := 234) hx hb d_R_texelOf_234 (lv_at hl 1 rfl) ?_
          refine lv_imul (pc := 236) hx hb d_R_texelOf_236 ?_
          refine lv_iadd (pc := 237) hx hb d_R_texelOf_237 ?_
          refine lv_iload (pc := 238) hx hb d_R_texelOf_238 (lv_at hl 0 rfl) ?_
          refine lv_iadd (pc := 240) hx hb d_R_texelOf_240 ?_
          obtain ⟨hi51, hE⟩ := xs_n hE
          refine xs_iald (pc := 241) hx hb G ia_158 (xs_inP hi51) d_R_texelOf_241 ?_
          cases hE
          exact xs_iret (pc := 242) hx hb hr hlk G d_R_texelOf_242
      · have hE := xs_f hE hc
        refine lv_iconst (pc := 196) (v := (0 : Int32)) hx hb d_R_texelOf_196 (by decide) ?_
        refine lv_goto (pc := 197) (tgt := 217) hx hb d_R_texelOf_197 (by decide) ?_
        refine lv_istore (pc := 217) hx hb d_R_texelOf_217 hl (by decide) (lv' := [(9, .int ((0 : Int32))), (8, .int (a45)), (6, .long (w9)), (4, .long (w5)), (2, .long (a1)), (0, .ref (ad 154)), (1, .int (x0))]) rfl (fun ls hl => ?_)
        refine lv_aload_n (pc := 219) hx hb d_R_texelOf_219 rfl (lv_at hl 5 rfl) ?_
        refine gf_R_19 (pc := 220) X G d_R_texelOf_220 ?_
        refine lv_bipush (pc := 223) (v := (64 : Int32)) hx hb d_R_texelOf_223 (by decide) ?_
        refine lv_aload_n (pc := 225) hx hb d_R_texelOf_225 rfl (lv_at hl 5 rfl) ?_
        refine gf_R_25 (pc := 226) X G d_R_texelOf_226 ?_
        refine lv_iload_n (pc := 229) hx hb d_R_texelOf_229 rfl (lv_at hl 6 rfl) ?_
        obtain ⟨hi52, hE⟩ := xs_n hE
        refine xs_iald (pc := 230) hx hb G ia_160 (xs_inP hi52) d_R_texelOf_230 ?_
        refine lv_imul (pc := 231) hx hb d_R_texelOf_231 ?_
        refine lv_bipush (pc := 232) (v := (8 : Int32)) hx hb d_R_texelOf_232 (by decide) ?_
        refine lv_iload (pc := 234) hx hb d_R_texelOf_234 (lv_at hl 1 rfl) ?_
        refine lv_imul (pc := 236) hx hb d_R_texelOf_236 ?_
        refine lv_iadd (pc := 237) hx hb d_R_texelOf_237 ?_
        refine lv_iload (pc := 238) hx hb d_R_texelOf_238 (lv_at hl 0 rfl) ?_
        refine lv_iadd (pc := 240) hx hb d_R_texelOf_240 ?_
        obtain ⟨hi53, hE⟩ := xs_n hE
        refine xs_iald (pc := 241) hx hb G ia_158 (xs_inP hi53) d_R_texelOf_241 ?_
        cases hE
        exact xs_iret (pc := 242) hx hb hr hlk G d_R_texelOf_242
    · have hE := xs_t hE hc
      refine lv_lload (pc := 179) hx hb d_R_texelOf_179 (lv_at hl 1 rfl) ?_
      refine lv_ldc2 (pc := 181) (v := (7 : Int64)) hx hb X.2.2.2.1 (X.2.2.2.2.1 _ cl_R_106) d_R_texelOf_181 ?_
      refine lv_land (pc := 184) hx hb d_R_texelOf_184 ?_
      refine lv_l2i (pc := 185) hx hb d_R_texelOf_185 rfl ?_
      refine lv_goto (pc := 186) (tgt := 217) hx hb d_R_texelOf_186 (by decide) ?_
      obtain ⟨a54, ha54, hE⟩ := xs_b hE
      refine xs_ti ha54 ?_
      clear ha54
      refine lv_istore (pc := 217) hx hb d_R_texelOf_217 hl (by decide) (lv' := [(9, .int (a54)), (8, .int (a45)), (6, .long (w9)), (4, .long (w5)), (2, .long (a1)), (0, .ref (ad 154)), (1, .int (x0))]) rfl (fun ls hl => ?_)
      refine lv_aload_n (pc := 219) hx hb d_R_texelOf_219 rfl (lv_at hl 5 rfl) ?_
      refine gf_R_19 (pc := 220) X G d_R_texelOf_220 ?_
      refine lv_bipush (pc := 223) (v := (64 : Int32)) hx hb d_R_texelOf_223 (by decide) ?_
      refine lv_aload_n (pc := 225) hx hb d_R_texelOf_225 rfl (lv_at hl 5 rfl) ?_
      refine gf_R_25 (pc := 226) X G d_R_texelOf_226 ?_
      refine lv_iload_n (pc := 229) hx hb d_R_texelOf_229 rfl (lv_at hl 6 rfl) ?_
      obtain ⟨hi55, hE⟩ := xs_n hE
      refine xs_iald (pc := 230) hx hb G ia_160 (xs_inP hi55) d_R_texelOf_230 ?_
      refine lv_imul (pc := 231) hx hb d_R_texelOf_231 ?_
      refine lv_bipush (pc := 232) (v := (8 : Int32)) hx hb d_R_texelOf_232 (by decide) ?_
      refine lv_iload (pc := 234) hx hb d_R_texelOf_234 (lv_at hl 1 rfl) ?_
      refine lv_imul (pc := 236) hx hb d_R_texelOf_236 ?_
      refine lv_iadd (pc := 237) hx hb d_R_texelOf_237 ?_
      refine lv_iload (pc := 238) hx hb d_R_texelOf_238 (lv_at hl 0 rfl) ?_
      refine lv_iadd (pc := 240) hx hb d_R_texelOf_240 ?_
      obtain ⟨hi56, hE⟩ := xs_n hE
      refine xs_iald (pc := 241) hx hb G ia_158 (xs_inP hi56) d_R_texelOf_241 ?_
      cases hE
      exact xs_iret (pc := 242) hx hb hr hlk G d_R_texelOf_242
def fn_R_draw_L7 : Nat → xs_M → Int32 → Int32 →  Option (Int32 × xs_M)
  | 0, _, _, _ => none
  | fu + 1, μ, v1, v2 => (if (192 : Int32) ≤ v2 then some ((v2, μ)) else (if xs_in v2 192 = true then ((some (xs_si μ 167 v2.toNatClampNeg (-1 : Int32))).bind fun μ3 => (if xs_in v2 192 = true then ((some (xs_si μ3 168 v2.toNatClampNeg (v1 &&& (255 : Int32)))).bind fun μ5 => fn_R_draw_L7 fu μ5 v1 (v2 + 1)) else none)) else none))
def fn_R_draw_L75 : Nat → xs_M → Int32 → Int32 → Int64 → Int32 →  Option (Int32 × xs_M)
  | 0, _, _, _, _, _ => none
  | fu + 1, μ, v1, v2, v3, v5 => (if (192 : Int32) ≤ v5 then some ((v5, μ)) else ((fn_R_covers μ v2 (v5 - v5 / (16 : Int32) * (16 : Int32)) (v5 / (16 : Int32)) v3).bind fun w8 => (if w8.1 = 0 then fn_R_draw_L75 fu w8.2 v1 v2 v3 (v5 + 1) else ((fn_R_placeOf w8.2 v2 (0 : Int32) (3 : Int32)).bind fun w9 => ((fn_R_placeOf w8.2 v2 (1 : Int32) (3 : Int32)).bind fun w10 => ((fn_R_placeOf w8.2 v2 (2 : Int32) (3 : Int32)).bind fun w11 => ((some ((((w8.2.2 166 (0 : Int32).toNatClampNeg) * w9) + ((w8.2.2 166 (1 : Int32).toNatClampNeg) * w10)) + ((w8.2.2 166 (2 : Int32).toNatClampNeg) * w11))).bind fun a12 => (if xs_in v5 192 = true then (if (w8.2.1 167 v5.toNatClampNeg) < 0 then (if xs_in v5 192 = true then ((some (xs_si w8.2 167 v5.toNatClampNeg (v2))).bind fun μ15 => (if xs_in v5 192 = true then ((some (xs_sl μ15 169 v5.toNatClampNeg (a12))).bind fun μ17 => (if xs_in v5 192 = true then ((some (xs_sl μ17 170 v5.toNatClampNeg (v3 * (μ17.2 154 14)))).bind fun μ19 => ((fn_R_texelOf μ19 v2).bind fun w20 => (if xs_in v5 192 = true then ((some (xs_si μ19 168 v5.toNatClampNeg (w20))).bind fun μ22 => fn_R_draw_L75 fu μ22 v1 v2 v3 (v5 + 1)) else none))) else none)) else none)) else none) else (if xs_in v5 192 = true then (if xs_in v5 192 = true then ((fn_R_order w8.2 a12 (v3 * (w8.2.2 154 14)) (w8.2.2 169 v5.toNatClampNeg) (w8.2.2 170 v5.toNatClampNeg)).bind fun w25 => (if 0 ≤ w25 then fn_R_draw_L75 fu w8.2 v1 v2 v3 (v5 + 1) else (if xs_in v5 192 = true then ((some (xs_si w8.2 167 v5.toNatClampNeg (v2))).bind fun μ27 => (if xs_in v5 192 = true then ((some (xs_sl μ27 169 v5.toNatClampNeg (a12))).bind fun μ29 => (if xs_in v5 192 = true then ((some (xs_sl μ29 170 v5.toNatClampNeg (v3 * (μ29.2 154 14)))).bind fun μ31 => ((fn_R_texelOf μ31 v2).bind fun w32 => (if xs_in v5 192 = true then ((some (xs_si μ31 168 v5.toNatClampNeg (w32))).bind fun μ34 => fn_R_draw_L75 fu μ34 v1 v2 v3 (v5 + 1)) else none))) else none)) else none)) else none))) else none) else none)) else none))))))))
def fn_R_draw_L40 : Nat → xs_M → Int32 → Int32 →  Option (Int32 × xs_M)
  | 0, _, _, _ => none
  | fu + 1, μ, v1, v2 => (if ((μ.1 154 9) / (3 : Int32)) ≤ v2 then some ((v2, μ)) else ((fn_R_prepare μ v2).bind fun w7 => (if 0 ≤ (lg_cmp (w7.2 154 14) (0 : Int64)) then ((fn_R_draw_L75 xs_FU w7 v1 v2 (1 : Int64) (0 : Int32)).bind fun z35 => fn_R_draw_L40 fu z35.2 v1 (v2 + 1)) else ((fn_R_draw_L75 xs_FU w7 v1 v2 (-1 : Int64) (0 : Int32)).bind fun z36 => fn_R_draw_L40 fu z36.2 v1 (v2 + 1)))))
def fn_R_draw_L244 : Nat → xs_M → Int32 → Int32 → Int32 →  Option (Int32 × Int32)
  | 0, _, _, _, _ => none
  | fu + 1, μ, v1, v2, v3 => (if (192 : Int32) ≤ v3 then some ((v2, v3)) else (if xs_in v3 192 = true then (if (μ.1 167 v3.toNatClampNeg) < 0 then fn_R_draw_L244 fu μ v1 v2 (v3 + 1) else ((some (v2 + (1 : Int32))).bind fun a39 => fn_R_draw_L244 fu μ v1 a39 (v3 + 1))) else none))
def fn_R_draw (μ0 : xs_M) (x0 : Int32) : Option (Int32 × xs_M) :=
  ((some (xs_si μ0 154 0 (0 : Int32))).bind fun μ1 => ((fn_R_draw_L7 xs_FU μ1 x0 (0 : Int32)).bind fun z6 => ((fn_R_draw_L40 xs_FU z6.2 x0 (0 : Int32)).bind fun z37 => ((fn_R_draw_L244 xs_FU z37.2 x0 (0 : Int32) (0 : Int32)).bind fun z40 => some ((z40.1, z37.2))))))
set_option maxHeartbeats 4000000 in
set_option maxRecDepth 100000 in
theorem ok_R_draw (l : Launch) (D : va_G) (ad : Nat → Nat) (cs : xs_cs) (hJ : xs_J ad) {μ0 : xs_M} {x0 : Int32}  {rz : (Int32 × xs_M)} (hE : fn_R_draw μ0 x0 = some rz) : xs_I l D ad cs y_R_draw b_R_draw 8 (some .int) 2 69 [.ref (ad 154), .int (x0)] μ0 (some (.int rz.1)) rz.2 := by
  refine xs_entry hJ (by decide) (Nat.le_of_ble_eq_true rfl) ?_
  intro p e s m below meth c ls X hr hlk G hl
  have X : xs_C p s m c b_R_draw 8 _ "ExactSceneModel" := X
  have hx := X.1
  have hb := X.2.1
  have hl : lv_has ls 8 [(0, .ref (ad 154)), (1, .int (x0))] := hl
  have L7 : ∀ (fu : Nat) (μ : xs_M) (v1 : Int32) (v2 : Int32) (H : Heap) (locs : List Loc) (ls : Array Slot) (z : (Int32 × xs_M)), fn_R_draw_L7 fu μ v1 v2 = some z → xs_G D ad cs s (xs_A ad s.heap.size) s.heap μ H locs → lv_has ls 8 [(0, .ref (ad 154)), (1, .int (v1)), (2, .int (v2))] → (∀ (H : Heap) (locs : List Loc) (ls : Array Slot), xs_G D ad cs s (xs_A ad s.heap.size) s.heap z.2 H locs → lv_has ls 8 [(0, .ref (ad 154)), (1, .int (v1)), (2, .int (z.1))] → W p l e (xs_rm 2 69) s m ([.ref (ad 154), .int (x0)] : List Value).toArray below meth c H locs 0 0 (xs_E below D ad cs [.ref (ad 154), .int (x0)] s (some (.int rz.1)) rz.2) (F0 m 38 ls [])) → W p l e (xs_rm 2 69) s m ([.ref (ad 154), .int (x0)] : List Value).toArray below meth c H locs 0 0 (xs_E below D ad cs [.ref (ad 154), .int (x0)] s (some (.int rz.1)) rz.2) (F0 m 7 ls []) := by
    clear hE hl G
    intro fu
    induction fu with
    | zero =>
      intro μ v1 v2 H locs ls z hE
      rw [fn_R_draw_L7] at hE
      cases hE
    | succ fu ih =>
      intro μ v1 v2 H locs ls z hE G hl kk
      rw [fn_R_draw_L7] at hE
      refine lv_iload_n (pc := 7) hx hb d_R_draw_7 rfl (lv_at hl 2 rfl) ?_
      refine lv_sipush (pc := 8) (v := (192 : Int32)) hx hb d_R_draw_8 (by decide) ?_
      refine lv_icmp_ge (pc := 11) (tgt := 38) hx hb d_R_draw_11 (by decide) (fun hc => ?_) (fun hc => ?_)
      · have hE := xs_t hE hc
        cases hE
        exact kk _ _ _ G (lv_sub hl [0, 1, 2] rfl)
      · have hE := xs_f hE hc
        refine lv_aload_n (pc := 14) hx hb d_R_draw_14 rfl (lv_at hl 0 rfl) ?_
        refine gf_R_47 (pc := 15) X G d_R_draw_15 ?_
        refine lv_iload_n (pc := 18) hx hb d_R_draw_18 rfl (lv_at hl 2 rfl) ?_
        refine lv_iconst (pc := 19) (v := (-1 : Int32)) hx hb d_R_draw_19 (by decide) ?_
        obtain ⟨hi2, hE⟩ := xs_n hE
        refine xs_iast (pc := 20) hx hb G ia_167 (xs_inP hi2) d_R_draw_20 (fun H locs G => ?_)
        obtain ⟨μ3, hμ3, hE⟩ := xs_b hE
        have G := xs_mv G hμ3
        clear hμ3
        refine lv_aload_n (pc := 21) hx hb d_R_draw_21 rfl (lv_at hl 0 rfl) ?_
        refine gf_R_50 (pc := 22) X G d_R_draw_22 ?_
        refine lv_iload_n (pc := 25) hx hb d_R_draw_25 rfl (lv_at hl 2 rfl) ?_
        refine lv_iload_n (pc := 26) hx hb d_R_draw_26 rfl (lv_at hl 1 rfl) ?_
        refine lv_sipush (pc := 27) (v := (255 : Int32)) hx hb d_R_draw_27 (by decide) ?_
        refine lv_iand (pc := 30) hx hb d_R_draw_30 ?_
        obtain ⟨hi4, hE⟩ := xs_n hE
        refine xs_iast (pc := 31) hx hb G ia_168 (xs_inP hi4) d_R_draw_31 (fun H locs G => ?_)
        obtain ⟨μ5, hμ5, hE⟩ := xs_b hE
        have G := xs_mv G hμ5
        clear hμ5
        refine lv_iinc (pc := 32) (v := (v2 + 1)) (k := 2) hx hb d_R_draw_32 hl rfl (xs_inc _) (by decide) (lv' := [(2, .int ((v2 + 1))), (0, .ref (ad 154)), (1, .int (v1))]) rfl (fun ls hl => ?_)
        refine lv_goto (pc := 35) (tgt := 7) hx hb d_R_draw_35 (by decide) ?_
        exact ih _ _ _ _ _ _ _ hE G (lv_sub hl [1, 2, 0] rfl) kk
  have L75 : ∀ (fu : Nat) (μ : xs_M) (v1 : Int32) (v2 : Int32) (v3 : Int64) (v5 : Int32) (H : Heap) (locs : List Loc) (ls : Array Slot) (z : (Int32 × xs_M)), fn_R_draw_L75 fu μ v1 v2 v3 v5 = some z → xs_G D ad cs s (xs_A ad s.heap.size) s.heap μ H locs → lv_has ls 8 [(0, .ref (ad 154)), (1, .int (v1)), (2, .int (v2)), (3, .long (v3)), (5, .int (v5))] → (∀ (H : Heap) (locs : List Loc) (ls : Array Slot), xs_G D ad cs s (xs_A ad s.heap.size) s.heap z.2 H locs → lv_has ls 8 [(0, .ref (ad 154)), (1, .int (v1)), (2, .int (v2)), (3, .long (v3)), (5, .int (z.1))] → W p l e (xs_rm 2 69) s m ([.ref (ad 154), .int (x0)] : List Value).toArray below meth c H locs 0 0 (xs_E below D ad cs [.ref (ad 154), .int (x0)] s (some (.int rz.1)) rz.2) (F0 m 234 ls [])) → W p l e (xs_rm 2 69) s m ([.ref (ad 154), .int (x0)] : List Value).toArray below meth c H locs 0 0 (xs_E below D ad cs [.ref (ad 154), .int (x0)] s (some (.int rz.1)) rz.2) (F0 m 75 ls []) := by
    clear hE hl G
    intro fu
    induction fu with
    | zero =>
      intro μ v1 v2 v3 v5 H locs ls z hE
      rw [fn_R_draw_L75] at hE
      cases hE
    | succ fu ih =>
      intro μ v1 v2 v3 v5 H locs ls z hE G hl kk
      rw [fn_R_draw_L75] at hE
      refine lv_iload (pc := 75) hx hb d_R_draw_75 (lv_at hl 4 rfl) ?_
      refine lv_sipush (pc := 77) (v := (192 : Int32)) hx hb d_R_draw_77 (by decide) ?_
      refine lv_icmp_ge (pc := 80) (tgt := 234) hx hb d_R_draw_80 (by decide) (fun hc => ?_) (fun hc => ?_)
      · have hE := xs_t hE hc
        cases hE
        exact kk _ _ _ G (lv_sub hl [0, 1, 2, 3, 4] rfl)
      · have hE := xs_f hE hc
        refine lv_aload_n (pc := 83) hx hb d_R_draw_83 rfl (lv_at hl 0 rfl) ?_
        refine lv_iload_n (pc := 84) hx hb d_R_draw_84 rfl (lv_at hl 2 rfl) ?_
        refine lv_iload (pc := 85) hx hb d_R_draw_85 (lv_at hl 4 rfl) ?_
        refine lv_bipush (pc := 87) (v := (16 : Int32)) hx hb d_R_draw_87 (by decide) ?_
        refine lv_irem (pc := 89) hx hb d_R_draw_89 (by decide) ?_
        refine lv_iload (pc := 90) hx hb d_R_draw_90 (lv_at hl 4 rfl) ?_
        refine lv_bipush (pc := 92) (v := (16 : Int32)) hx hb d_R_draw_92 (by decide) ?_
        refine lv_idiv (pc := 94) hx hb d_R_draw_94 (by decide) ?_
        refine lv_lload_n (pc := 95) hx hb d_R_draw_95 rfl (lv_at hl 3 rfl) ?_
        obtain ⟨w8, hw8, hE⟩ := xs_b hE
        refine xs_callVr (pc := 96) (as := [.int (v2), .int ((v5 - v5 / (16 : Int32) * (16 : Int32))), .int ((v5 / (16 : Int32))), .long (v3)]) X (ok_R_covers l D ad cs hJ hw8) km_R_114 G (xs_wR ad cs _) rfl ⟨by decide, by decide⟩ ⟨Nat.zero_le _, Nat.zero_le _⟩ rfl hl.1 rfl (Nat.le_of_ble_eq_true rfl) d_R_draw_96 (fun H locs G => ?_)
        refine lv_if_eq (pc := 99) (tgt := 228) hx hb d_R_draw_99 (by decide) (fun hc => ?_) (fun hc => ?_)
        · have hE := xs_t hE hc
          refine lv_iinc (pc := 228) (v := (v5 + 1)) (k := 4) hx hb d_R_draw_228 hl rfl (xs_inc _) (by decide) (lv' := [(5, .int ((v5 + 1))), (0, .ref (ad 154)), (1, .int (v1)), (2, .int (v2)), (3, .long (v3))]) rfl (fun ls hl => ?_)
          refine lv_goto (pc := 231) (tgt := 75) hx hb d_R_draw_231 (by decide) ?_
          exact ih _ _ _ _ _ _ _ _ _ hE G (lv_sub hl [1, 2, 3, 4, 0] rfl) kk
        · have hE := xs_f hE hc
          refine lv_aload_n (pc := 102) hx hb d_R_draw_102 rfl (lv_at hl 0 rfl) ?_
          refine gf_R_44 (pc := 103) X G d_R_draw_103 ?_
          refine lv_iconst (pc := 106) (v := (0 : Int32)) hx hb d_R_draw_106 (by decide) ?_
          refine xs_lald (pc := 107) hx hb G la_166 (xs_inP (by decide)) d_R_draw_107 ?_
          refine lv_aload_n (pc := 108) hx hb d_R_draw_108 rfl (lv_at hl 0 rfl) ?_
          refine lv_iload_n (pc := 109) hx hb d_R_draw_109 rfl (lv_at hl 2 rfl) ?_
          refine lv_iconst (pc := 110) (v := (0 : Int32)) hx hb d_R_draw_110 (by decide) ?_
          refine lv_iconst (pc := 111) (v := (3 : Int32)) hx hb d_R_draw_111 (by decide) ?_
          obtain ⟨w9, hw9, hE⟩ := xs_b hE
          refine xs_callVr (pc := 112) (as := [.int (v2), .int ((0 : Int32)), .int ((3 : Int32))]) X (ok_R_placeOf l D ad cs hJ hw9) km_R_94 G (xs_wR ad cs _) rfl ⟨by decide, by decide⟩ ⟨Nat.zero_le _, Nat.zero_le _⟩ rfl hl.1 rfl (Nat.le_of_ble_eq_true rfl) d_R_draw_112 (fun H locs G => ?_)
          refine lv_lmul (pc := 115) hx hb d_R_draw_115 ?_
          refine lv_aload_n (pc := 116) hx hb d_R_draw_116 rfl (lv_at hl 0 rfl) ?_
          refine gf_R_44 (pc := 117) X G d_R_draw_117 ?_
          refine lv_iconst (pc := 120) (v := (1 : Int32)) hx hb d_R_draw_120 (by decide) ?_
          refine xs_lald (pc := 121) hx hb G la_166 (xs_inP (by decide)) d_R_draw_121 ?_
          refine lv_aload_n (pc := 122) hx hb d_R_draw_122 rfl (lv_at hl 0 rfl) ?_
          refine lv_iload_n (pc := 123) hx hb d_R_draw_123 rfl (lv_at hl 2 rfl) ?_
          refine lv_iconst (pc := 124) (v := (1 : Int32)) hx hb d_R_draw_124 (by decide) ?_
          refine lv_iconst (pc := 125) (v := (3 : Int32)) hx hb d_R_draw_125 (by decide) ?_
          obtain ⟨w10, hw10, hE⟩ := xs_b hE
          refine xs_callVr (pc := 126) (as := [.int (v2), .int ((1 : Int32)), .int ((3 : Int32))]) X (ok_R_placeOf l D ad cs hJ hw10) km_R_94 G (xs_wR ad cs _) rfl ⟨by decide, by decide⟩ ⟨Nat.zero_le _, Nat.zero_le _⟩ rfl hl.1 rfl (Nat.le_of_ble_eq_true rfl) d_R_draw_126 (fun H locs G => ?_)
          refine lv_lmul (pc := 129) hx hb d_R_draw_129 ?_
          refine lv_ladd (pc := 130) hx hb d_R_draw_130 ?_
          refine lv_aload_n (pc := 131) hx hb d_R_draw_131 rfl (lv_at hl 0 rfl) ?_
          refine gf_R_44 (pc := 132) X G d_R_draw_132 ?_
          refine lv_iconst (pc := 135) (v := (2 : Int32)) hx hb d_R_draw_135 (by decide) ?_
          refine xs_lald (pc := 136) hx hb G la_166 (xs_inP (by decide)) d_R_draw_136 ?_
          refine lv_aload_n (pc := 137) hx hb d_R_draw_137 rfl (lv_at hl 0 rfl) ?_
          refine lv_iload_n (pc := 138) hx hb d_R_draw_138 rfl (lv_at hl 2 rfl) ?_
          refine lv_iconst (pc := 139) (v := (2 : Int32)) hx hb d_R_draw_139 (by decide) ?_
          refine lv_iconst (pc := 140) (v := (3 : Int32)) hx hb d_R_draw_140 (by decide) ?_
          obtain ⟨w11, hw11, hE⟩ := xs_b hE
          refine xs_callVr (pc := 141) (as := [.int (v2), .int ((2 : Int32)), .int ((3 : Int32))]) X (ok_R_placeOf l D ad cs hJ hw11) km_R_94 G (xs_wR ad cs _) rfl ⟨by decide, by decide⟩ ⟨Nat.zero_le _, Nat.zero_le _⟩ rfl hl.1 rfl (Nat.le_of_ble_eq_true rfl) d_R_draw_141 (fun H locs G => ?_)
          refine lv_lmul (pc := 144) hx hb d_R_draw_144 ?_
          refine lv_ladd (pc := 145) hx hb d_R_draw_145 ?_
          obtain ⟨a12, ha12, hE⟩ := xs_b hE
          refine xs_tl ha12 ?_
          clear ha12
          refine lv_lstore (pc := 146) hx hb d_R_draw_146 hl (by decide) (lv' := [(6, .long (a12)), (0, .ref (ad 154)), (1, .int (v1)), (2, .int (v2)), (3, .long (v3)), (5, .int (v5))]) rfl (fun ls hl => ?_)
          refine lv_aload_n (pc := 148) hx hb d_R_draw_148 rfl (lv_at hl 1 rfl) ?_
          refine gf_R_47 (pc := 149) X G d_R_draw_149 ?_
          refine lv_iload (pc := 152) hx hb d_R_draw_152 (lv_at hl 5 rfl) ?_
          obtain ⟨hi13, hE⟩ := xs_n hE
          refine xs_iald (pc := 154) hx hb G ia_167 (xs_inP hi13) d_R_draw_154 ?_
          refine lv_if_lt (pc := 155) (tgt := 186) hx hb d_R_draw_155 (by decide) (fun hc => ?_) (fun hc => ?_)
          · have hE := xs_t hE hc
            refine lv_aload_n (pc := 186) hx hb d_R_draw_186 rfl (lv_at hl 1 rfl) ?_
            refine gf_R_47 (pc := 187) X G d_R_draw_187 ?_
            refine lv_iload (pc := 190) hx hb d_R_draw_190 (lv_at hl 5 rfl) ?_
            refine lv_iload_n (pc := 192) hx hb d_R_draw_192 rfl (lv_at hl 3 rfl) ?_
            obtain ⟨hi14, hE⟩ := xs_n hE
            refine xs_iast (pc := 193) hx hb G ia_167 (xs_inP hi14) d_R_draw_193 (fun H locs G => ?_)
            obtain ⟨μ15, hμ15, hE⟩ := xs_b hE
            have G := xs_mv G hμ15
            clear hμ15
            refine lv_aload_n (pc := 194) hx hb d_R_draw_194 rfl (lv_at hl 1 rfl) ?_
            refine gf_R_53 (pc := 195) X G d_R_draw_195 ?_
            refine lv_iload (pc := 198) hx hb d_R_draw_198 (lv_at hl 5 rfl) ?_
            refine lv_lload (pc := 200) hx hb d_R_draw_200 (lv_at hl 0 rfl) ?_
            obtain ⟨hi16, hE⟩ := xs_n hE
            refine xs_last (pc := 202) hx hb G la_169 (xs_inP hi16) d_R_draw_202 (fun H locs G => ?_)
            obtain ⟨μ17, hμ17, hE⟩ := xs_b hE
            have G := xs_mv G hμ17
            clear hμ17
            refine lv_aload_n (pc := 203) hx hb d_R_draw_203 rfl (lv_at hl 1 rfl) ?_
            refine gf_R_56 (pc := 204) X G d_R_draw_204 ?_
            refine lv_iload (pc := 207) hx hb d_R_draw_207 (lv_at hl 5 rfl) ?_
            refine lv_lload_n (pc := 209) hx hb d_R_draw_209 rfl (lv_at hl 4 rfl) ?_
            refine lv_aload_n (pc := 210) hx hb d_R_draw_210 rfl (lv_at hl 1 rfl) ?_
            refine gf_R_98 (pc := 211) X G d_R_draw_211 ?_
            refine lv_lmul (pc := 214) hx hb d_R_draw_214 ?_
            obtain ⟨hi18, hE⟩ := xs_n hE
            refine xs_last (pc := 215) hx hb G la_170 (xs_inP hi18) d_R_draw_215 (fun H locs G => ?_)
            obtain ⟨μ19, hμ19, hE⟩ := xs_b hE
            have G := xs_mv G hμ19
            clear hμ19
            refine lv_aload_n (pc := 216) hx hb d_R_draw_216 rfl (lv_at hl 1 rfl) ?_
            refine gf_R_50 (pc := 217) X G d_R_draw_217 ?_
            refine lv_iload (pc := 220) hx hb d_R_draw_220 (lv_at hl 5 rfl) ?_
            refine lv_aload_n (pc := 222) hx hb d_R_draw_222 rfl (lv_at hl 1 rfl) ?_
            refine lv_iload_n (pc := 223) hx hb d_R_draw_223 rfl (lv_at hl 3 rfl) ?_
            obtain ⟨w20, hw20, hE⟩ := xs_b hE
            refine xs_callVr (pc := 224) (as := [.int (v2)]) X (ok_R_texelOf l D ad cs hJ hw20) km_R_122 G (xs_wR ad cs _) rfl ⟨by decide, by decide⟩ ⟨Nat.zero_le _, Nat.zero_le _⟩ rfl hl.1 rfl (Nat.le_of_ble_eq_true rfl) d_R_draw_224 (fun H locs G => ?_)
            obtain ⟨hi21, hE⟩ := xs_n hE
            refine xs_iast (pc := 227) hx hb G ia_168 (xs_inP hi21) d_R_draw_227 (fun H locs G => ?_)
            obtain ⟨μ22, hμ22, hE⟩ := xs_b hE
            have G := xs_mv G hμ22
            clear hμ22
            refine lv_iinc (pc := 228) (v := (v5 + 1)) (k := 5) hx hb d_R_draw_228 hl rfl (xs_inc _) (by decide) (lv' := [(5, .int ((v5 + 1))), (6, .long (a12)), (0, .ref (ad 154)), (1, .int (v1)), (2, .int (v2)), (3, .long (v3))]) rfl (fun ls hl => ?_)
            refine lv_goto (pc := 231) (tgt := 75) hx hb d_R_draw_231 (by decide) ?_
            exact ih _ _ _ _ _ _ _ _ _ hE G (lv_sub hl [2, 3, 4, 5, 0] rfl) kk
          · have hE := xs_f hE hc
            refine lv_lload (pc := 158) hx hb d_R_draw_158 (lv_at hl 0 rfl) ?_
            refine lv_lload_n (pc := 160) hx hb d_R_draw_160 rfl (lv_at hl 4 rfl) ?_
            refine lv_aload_n (pc := 161) hx hb d_R_draw_161 rfl (lv_at hl 1 rfl) ?_
            refine gf_R_98 (pc := 162) X G d_R_draw_162 ?_
            refine lv_lmul (pc := 165) hx hb d_R_draw_165 ?_
            refine lv_aload_n (pc := 166) hx hb d_R_draw_166 rfl (lv_at hl 1 rfl) ?_
            refine gf_R_53 (pc := 167) X G d_R_draw_167 ?_
            refine lv_iload (pc := 170) hx hb d_R_draw_170 (lv_at hl 5 rfl) ?_
            obtain ⟨hi23, hE⟩ := xs_n hE
            refine xs_lald (pc := 172) hx hb G la_169 (xs_inP hi23) d_R_draw_172 ?_
            refine lv_aload_n (pc := 173) hx hb d_R_draw_173 rfl (lv_at hl 1 rfl) ?_
            refine gf_R_56 (pc := 174) X G d_R_draw_174 ?_
            refine lv_iload (pc := 177) hx hb d_R_draw_177 (lv_at hl 5 rfl) ?_
            obtain ⟨hi24, hE⟩ := xs_n hE
            refine xs_lald (pc := 179) hx hb G la_170 (xs_inP hi24) d_R_draw_179 ?_
            obtain ⟨w25, hw25, hE⟩ := xs_b hE
            refine xs_callSr (pc := 180) (as := [.long (a12), .long ((v3 * (w8.2.2 154 14))), .long ((w8.2.2 169 v5.toNatClampNeg)), .long ((w8.2.2 170 v5.toNatClampNeg))]) X (ok_R_order l D ad cs hJ hw25) km_R_118 G ⟨by decide, by decide⟩ ⟨Nat.zero_le _, Nat.zero_le _⟩ rfl hl.1 rfl (Nat.le_of_ble_eq_true rfl) d_R_draw_180 (fun H locs G => ?_)
            refine lv_if_ge (pc := 183) (tgt := 228) hx hb d_R_draw_183 (by decide) (fun hc => ?_) (fun hc => ?_)
            · have hE := xs_t hE hc
              refine lv_iinc (pc := 228) (v := (v5 + 1)) (k := 5) hx hb d_R_draw_228 hl rfl (xs_inc _) (by decide) (lv' := [(5, .int ((v5 + 1))), (6, .long (a12)), (0, .ref (ad 154)), (1, .int (v1)), (2, .int (v2)), (3, .long (v3))]) rfl (fun ls hl => ?_)
              refine lv_goto (pc := 231) (tgt := 75) hx hb d_R_draw_231 (by decide) ?_
              exact ih _ _ _ _ _ _ _ _ _ hE G (lv_sub hl [2, 3, 4, 5, 0] rfl) kk
            · have hE := xs_f hE hc
              refine lv_aload_n (pc := 186) hx hb d_R_draw_186 rfl (lv_at hl 1 rfl) ?_
              refine gf_R_47 (pc := 187) X G d_R_draw_187 ?_
              refine lv_iload (pc := 190) hx hb d_R_draw_190 (lv_at hl 5 rfl) ?_
              refine lv_iload_n (pc := 192) hx hb d_R_draw_192 rfl (lv_at hl 3 rfl) ?_
              obtain ⟨hi26, hE⟩ := xs_n hE
              refine xs_iast (pc := 193) hx hb G ia_167 (xs_inP hi26) d_R_draw_193 (fun H locs G => ?_)
              obtain ⟨μ27, hμ27, hE⟩ := xs_b hE
              have G := xs_mv G hμ27
              clear hμ27
              refine lv_aload_n (pc := 194) hx hb d_R_draw_194 rfl (lv_at hl 1 rfl) ?_
              refine gf_R_53 (pc := 195) X G d_R_draw_195 ?_
              refine lv_iload (pc := 198) hx hb d_R_draw_198 (lv_at hl 5 rfl) ?_
              refine lv_lload (pc := 200) hx hb d_R_draw_200 (lv_at hl 0 rfl) ?_
              obtain ⟨hi28, hE⟩ := xs_n hE
              refine xs_last (pc := 202) hx hb G la_169 (xs_inP hi28) d_R_draw_202 (fun H locs G => ?_)
              obtain ⟨μ29, hμ29, hE⟩ := xs_b hE
              have G := xs_mv G hμ29
              clear hμ29
              refine lv_aload_n (pc := 203) hx hb d_R_draw_203 rfl (lv_at hl 1 rfl) ?_
              refine gf_R_56 (pc := 204) X G d_R_draw_204 ?_
              refine lv_iload (pc := 207) hx hb d_R_draw_207 (lv_at hl 5 rfl) ?_
              refine lv_lload_n (pc := 209) hx hb d_R_draw_209 rfl (lv_at hl 4 rfl) ?_
              refine lv_aload_n (pc := 210) hx hb d_R_draw_210 rfl (lv_at hl 1 rfl) ?_
              refine gf_R_98 (pc := 211) X G d_R_draw_211 ?_
              refine lv_lmul (pc := 214) hx hb d_R_draw_214 ?_
              obtain ⟨hi30, hE⟩ := xs_n hE
              refine xs_last (pc := 215) hx hb G la_170 (xs_inP hi30) d_R_draw_215 (fun H locs G => ?_)
              obtain ⟨μ31, hμ31, hE⟩ := xs_b hE
              have G := xs_mv G hμ31
              clear hμ31
              refine lv_aload_n (pc := 216) hx hb d_R_draw_216 rfl (lv_at hl 1 rfl) ?_
              refine gf_R_50 (pc := 217) X G d_R_draw_217 ?_
              refine lv_iload (pc := 220) hx hb d_R_draw_220 (lv_at hl 5 rfl) ?_
              refine lv_aload_n (pc := 222) hx hb d_R_draw_222 rfl (lv_at hl 1 rfl) ?_
              refine lv_iload_n (pc := 223) hx hb d_R_draw_223 rfl (lv_at hl 3 rfl) ?_
              obtain ⟨w32, hw32, hE⟩ := xs_b hE
              refine xs_callVr (pc := 224) (as := [.int (v2)]) X (ok_R_texelOf l D ad cs hJ hw32) km_R_122 G (xs_wR ad cs _) rfl ⟨by decide, by decide⟩ ⟨Nat.zero_le _, Nat.zero_le _⟩ rfl hl.1 rfl (Nat.le_of_ble_eq_true rfl) d_R_draw_224 (fun H locs G => ?_)
              obtain ⟨hi33, hE⟩ := xs_n hE
              refine xs_iast (pc := 227) hx hb G ia_168 (xs_inP hi33) d_R_draw_227 (fun H locs G => ?_)
              obtain ⟨μ34, hμ34, hE⟩ := xs_b hE
              have G := xs_mv G hμ34
              clear hμ34
              refine lv_iinc (pc := 228) (v := (v5 + 1)) (k := 5) hx hb d_R_draw_228 hl rfl (xs_inc _) (by decide) (lv' := [(5, .int ((v5 + 1))), (6, .long (a12)), (0, .ref (ad 154)), (1, .int (v1)), (2, .int (v2)), (3, .long (v3))]) rfl (fun ls hl => ?_)
              refine lv_goto (pc := 231) (tgt := 75) hx hb d_R_draw_231 (by decide) ?_
              exact ih _ _ _ _ _ _ _ _ _ hE G (lv_sub hl [2, 3, 4, 5, 0] rfl) kk
  have L40 : ∀ (fu : Nat) (μ : xs_M) (v1 : Int32) (v2 : Int32) (H : Heap) (locs : List Loc) (ls : Array Slot) (z : (Int32 × xs_M)), fn_R_draw_L40 fu μ v1 v2 = some z → xs_G D ad cs s (xs_A ad s.heap.size) s.heap μ H locs → lv_has ls 8 [(0, .ref (ad 154)), (1, .int (v1)), (2, .int (v2))] → (∀ (H : Heap) (locs : List Loc) (ls : Array Slot), xs_G D ad cs s (xs_A ad s.heap.size) s.heap z.2 H locs → lv_has ls 8 [(0, .ref (ad 154)), (1, .int (v1)), (2, .int (z.1))] → W p l e (xs_rm 2 69) s m ([.ref (ad 154), .int (x0)] : List Value).toArray below meth c H locs 0 0 (xs_E below D ad cs [.ref (ad 154), .int (x0)] s (some (.int rz.1)) rz.2) (F0 m 240 ls [])) → W p l e (xs_rm 2 69) s m ([.ref (ad 154), .int (x0)] : List Value).toArray below meth c H locs 0 0 (xs_E below D ad cs [.ref (ad 154), .int (x0)] s (some (.int rz.1)) rz.2) (F0 m 40 ls []) := by
    clear hE hl G
    intro fu
    induction fu with
    | zero =>
      intro μ v1 v2 H locs ls z hE
      rw [fn_R_draw_L40] at hE
      cases hE
    | succ fu ih =>
      intro μ v1 v2 H locs ls z hE G hl kk
      rw [fn_R_draw_L40] at hE
      refine lv_iload_n (pc := 40) hx hb d_R_draw_40 rfl (lv_at hl 2 rfl) ?_
      refine lv_aload_n (pc := 41) hx hb d_R_draw_41 rfl (lv_at hl 0 rfl) ?_
      refine gf_R_78 (pc := 42) X G d_R_draw_42 ?_
      refine lv_iconst (pc := 45) (v := (3 : Int32)) hx hb d_R_draw_45 (by decide) ?_
      refine lv_idiv (pc := 46) hx hb d_R_draw_46 (by decide) ?_
      refine lv_icmp_ge (pc := 47) (tgt := 240) hx hb d_R_draw_47 (by decide) (fun hc => ?_) (fun hc => ?_)
      · have hE := xs_t hE hc
        cases hE
        exact kk _ _ _ G (lv_sub hl [0, 1, 2] rfl)
      · have hE := xs_f hE hc
        refine lv_aload_n (pc := 50) hx hb d_R_draw_50 rfl (lv_at hl 0 rfl) ?_
        refine lv_iload_n (pc := 51) hx hb d_R_draw_51 rfl (lv_at hl 2 rfl) ?_
        obtain ⟨w7, hw7, hE⟩ := xs_b hE
        refine xs_callVv (pc := 52) (as := [.int (v2)]) X (ok_R_prepare l D ad cs hJ hw7) km_R_108 G (xs_wR ad cs _) rfl ⟨by decide, by decide⟩ ⟨Nat.zero_le _, Nat.zero_le _⟩ rfl hl.1 rfl (Nat.le_of_ble_eq_true rfl) d_R_draw_52 (fun H locs G => ?_)
        refine lv_aload_n (pc := 55) hx hb d_R_draw_55 rfl (lv_at hl 0 rfl) ?_
        refine gf_R_98 (pc := 56) X G d_R_draw_56 ?_
        refine lv_lconst (pc := 59) (v := (0 : Int64)) hx hb d_R_draw_59 (by decide) ?_
        refine W.lcmp (pc := 60) hx hb d_R_draw_60 ?_
        refine lv_if_ge (pc := 61) (tgt := 70) hx hb d_R_draw_61 (by decide) (fun hc => ?_) (fun hc => ?_)
        · have hE := xs_t hE hc
          refine lv_lconst (pc := 70) (v := (1 : Int64)) hx hb d_R_draw_70 (by decide) ?_
          refine lv_lstore_n (pc := 71) hx hb d_R_draw_71 rfl hl (by decide) (lv' := [(3, .long ((1 : Int64))), (0, .ref (ad 154)), (1, .int (v1)), (2, .int (v2))]) rfl (fun ls hl => ?_)
          refine lv_iconst (pc := 72) (v := (0 : Int32)) hx hb d_R_draw_72 (by decide) ?_
          refine lv_istore (pc := 73) hx hb d_R_draw_73 hl (by decide) (lv' := [(5, .int ((0 : Int32))), (3, .long ((1 : Int64))), (0, .ref (ad 154)), (1, .int (v1)), (2, .int (v2))]) rfl (fun ls hl => ?_)
          obtain ⟨z35, hz35, hE⟩ := xs_b hE
          refine L75 _ _ _ _ _ _ _ _ _ _ hz35 G (lv_sub hl [2, 3, 4, 1, 0] rfl) (fun H locs ls G hl => ?_)
          refine lv_iinc (pc := 234) (v := (v2 + 1)) (k := 2) hx hb d_R_draw_234 hl rfl (xs_inc _) (by decide) (lv' := [(2, .int ((v2 + 1))), (0, .ref (ad 154)), (1, .int (v1)), (3, .long ((1 : Int64))), (5, .int (z35.1))]) rfl (fun ls hl => ?_)
          refine lv_goto (pc := 237) (tgt := 40) hx hb d_R_draw_237 (by decide) ?_
          exact ih _ _ _ _ _ _ _ hE G (lv_sub hl [1, 2, 0] rfl) kk
        · have hE := xs_f hE hc
          refine lv_ldc2 (pc := 64) (v := (-1 : Int64)) hx hb X.2.2.2.1 (X.2.2.2.2.1 _ cl_R_112) d_R_draw_64 ?_
          refine lv_goto (pc := 67) (tgt := 71) hx hb d_R_draw_67 (by decide) ?_
          refine lv_lstore_n (pc := 71) hx hb d_R_draw_71 rfl hl (by decide) (lv' := [(3, .long ((-1 : Int64))), (0, .ref (ad 154)), (1, .int (v1)), (2, .int (v2))]) rfl (fun ls hl => ?_)
          refine lv_iconst (pc := 72) (v := (0 : Int32)) hx hb d_R_draw_72 (by decide) ?_
          refine lv_istore (pc := 73) hx hb d_R_draw_73 hl (by decide) (lv' := [(5, .int ((0 : Int32))), (3, .long ((-1 : Int64))), (0, .ref (ad 154)), (1, .int (v1)), (2, .int (v2))]) rfl (fun ls hl => ?_)
          obtain ⟨z36, hz36, hE⟩ := xs_b hE
          refine L75 _ _ _ _ _ _ _ _ _ _ hz36 G (lv_sub hl [2, 3, 4, 1, 0] rfl) (fun H locs ls G hl => ?_)
          refine lv_iinc (pc := 234) (v := (v2 + 1)) (k := 2) hx hb d_R_draw_234 hl rfl (xs_inc _) (by decide) (lv' := [(2, .int ((v2 + 1))), (0, .ref (ad 154)), (1, .int (v1)), (3, .long ((-1 : Int64))), (5, .int (z36.1))]) rfl (fun ls hl => ?_)
          refine lv_goto (pc := 237) (tgt := 40) hx hb d_R_draw_237 (by decide) ?_
          exact ih _ _ _ _ _ _ _ hE G (lv_sub hl [1, 2, 0] rfl) kk
  have L244 : ∀ (fu : Nat) (μ : xs_M) (v1 : Int32) (v2 : Int32) (v3 : Int32) (H : Heap) (locs : List Loc) (ls : Array Slot) (z : (Int32 × Int32)), fn_R_draw_L244 fu μ v1 v2 v3 = some z → xs_G D ad cs s (xs_A ad s.heap.size) s.heap μ H locs → lv_has ls 8 [(0, .ref (ad 154)), (1, .int (v1)), (2, .int (v2)), (3, .int (v3))] → (∀ (H : Heap) (locs : List Loc) (ls : Array Slot), xs_G D ad cs s (xs_A ad s.heap.size) s.heap μ H locs → lv_has ls 8 [(0, .ref (ad 154)), (1, .int (v1)), (2, .int (z.1)), (3, .int (z.2))] → W p l e (xs_rm 2 69) s m ([.ref (ad 154), .int (x0)] : List Value).toArray below meth c H locs 0 0 (xs_E below D ad cs [.ref (ad 154), .int (x0)] s (some (.int rz.1)) rz.2) (F0 m 274 ls [])) → W p l e (xs_rm 2 69) s m ([.ref (ad 154), .int (x0)] : List Value).toArray below meth c H locs 0 0 (xs_E below D ad cs [.ref (ad 154), .int (x0)] s (some (.int rz.1)) rz.2) (F0 m 244 ls []) := by
    clear hE hl G
    intro fu
    induction fu with
    | zero =>
      intro μ v1 v2 v3 H locs ls z hE
      rw [fn_R_draw_L244] at hE
      cases hE
    | succ fu ih =>
      intro μ v1 v2 v3 H locs ls z hE G hl kk
      rw [fn_R_draw_L244] at hE
      refine lv_iload_n (pc := 244) hx hb d_R_draw_244 rfl (lv_at hl 3 rfl) ?_
      refine lv_sipush (pc := 245) (v := (192 : Int32)) hx hb d_R_draw_245 (by decide) ?_
      refine lv_icmp_ge (pc := 248) (tgt := 274) hx hb d_R_draw_248 (by decide) (fun hc => ?_) (fun hc => ?_)
      · have hE := xs_t hE hc
        cases hE
        exact kk _ _ _ G (lv_sub hl [0, 1, 2, 3] rfl)
      · have hE := xs_f hE hc
        refine lv_aload_n (pc := 251) hx hb d_R_draw_251 rfl (lv_at hl 0 rfl) ?_
        refine gf_R_47 (pc := 252) X G d_R_draw_252 ?_
        refine lv_iload_n (pc := 255) hx hb d_R_draw_255 rfl (lv_at hl 3 rfl) ?_
        obtain ⟨hi38, hE⟩ := xs_n hE
        refine xs_iald (pc := 256) hx hb G ia_167 (xs_inP hi38) d_R_draw_256 ?_
        refine lv_if_lt (pc := 257) (tgt := 266) hx hb d_R_draw_257 (by decide) (fun hc => ?_) (fun hc => ?_)
        · have hE := xs_t hE hc
          refine lv_iload_n (pc := 266) hx hb d_R_draw_266 rfl (lv_at hl 2 rfl) ?_
          refine lv_istore_n (pc := 267) hx hb d_R_draw_267 rfl hl (by decide) (lv' := [(2, .int (v2)), (0, .ref (ad 154)), (1, .int (v1)), (3, .int (v3))]) rfl (fun ls hl => ?_)
          refine lv_iinc (pc := 268) (v := (v3 + 1)) (k := 3) hx hb d_R_draw_268 hl rfl (xs_inc _) (by decide) (lv' := [(3, .int ((v3 + 1))), (2, .int (v2)), (0, .ref (ad 154)), (1, .int (v1))]) rfl (fun ls hl => ?_)
          refine lv_goto (pc := 271) (tgt := 244) hx hb d_R_draw_271 (by decide) ?_
          exact ih _ _ _ _ _ _ _ _ hE G (lv_sub hl [2, 3, 1, 0] rfl) kk
        · have hE := xs_f hE hc
          refine lv_iload_n (pc := 260) hx hb d_R_draw_260 rfl (lv_at hl 2 rfl) ?_
          refine lv_iconst (pc := 261) (v := (1 : Int32)) hx hb d_R_draw_261 (by decide) ?_
          refine lv_iadd (pc := 262) hx hb d_R_draw_262 ?_
          refine lv_goto (pc := 263) (tgt := 267) hx hb d_R_draw_263 (by decide) ?_
          obtain ⟨a39, ha39, hE⟩ := xs_b hE
          refine xs_ti ha39 ?_
          clear ha39
          refine lv_istore_n (pc := 267) hx hb d_R_draw_267 rfl hl (by decide) (lv' := [(2, .int (a39)), (0, .ref (ad 154)), (1, .int (v1)), (3, .int (v3))]) rfl (fun ls hl => ?_)
          refine lv_iinc (pc := 268) (v := (v3 + 1)) (k := 3) hx hb d_R_draw_268 hl rfl (xs_inc _) (by decide) (lv' := [(3, .int ((v3 + 1))), (2, .int (a39)), (0, .ref (ad 154)), (1, .int (v1))]) rfl (fun ls hl => ?_)
          refine lv_goto (pc := 271) (tgt := 244) hx hb d_R_draw_271 (by decide) ?_
          exact ih _ _ _ _ _ _ _ _ hE G (lv_sub hl [2, 3, 1, 0] rfl) kk
  unfold fn_R_draw at hE
  refine lv_aload_n (pc := 0) hx hb d_R_draw_0 rfl (lv_at hl 0 rfl) ?_
  refine lv_iconst (pc := 1) (v := (0 : Int32)) hx hb d_R_draw_1 (by decide) ?_
  refine pf_R_59 (pc := 2) X G d_R_draw_2 (fun H locs G => ?_)
  obtain ⟨μ1, hμ1, hE⟩ := xs_b hE
  have G := xs_mv G hμ1
  have hfμ1 := xs_fi hμ1
  clear hμ1
  refine lv_iconst (pc := 5) (v := (0 : Int32)) hx hb d_R_draw_5 (by decide) ?_
  refine lv_istore_n (pc := 6) hx hb d_R_draw_6 rfl hl (by decide) (lv' := [(2, .int ((0 : Int32))), (0, .ref (ad 154)), (1, .int (x0))]) rfl (fun ls hl => ?_)
  obtain ⟨z6, hz6, hE⟩ := xs_b hE
  refine L7 _ _ _ _ _ _ _ _ hz6 G (lv_sub hl [1, 2, 0] rfl) (fun H locs ls G hl => ?_)
  refine lv_iconst (pc := 38) (v := (0 : Int32)) hx hb d_R_draw_38 (by decide) ?_
  refine lv_istore_n (pc := 39) hx hb d_R_draw_39 rfl hl (by decide) (lv' := [(2, .int ((0 : Int32))), (0, .ref (ad 154)), (1, .int (x0))]) rfl (fun ls hl => ?_)
  obtain ⟨z37, hz37, hE⟩ := xs_b hE
  refine L40 _ _ _ _ _ _ _ _ hz37 G (lv_sub hl [1, 2, 0] rfl) (fun H locs ls G hl => ?_)
  refine lv_iconst (pc := 240) (v := (0 : Int32)) hx hb d_R_draw_240 (by decide) ?_
  refine lv_istore_n (pc := 241) hx hb d_R_draw_241 rfl hl (by decide) (lv' := [(2, .int ((0 : Int32))), (0, .ref (ad 154)), (1, .int (x0))]) rfl (fun ls hl => ?_)
  refine lv_iconst (pc := 242) (v := (0 : Int32)) hx hb d_R_draw_242 (by decide) ?_
  refine lv_istore_n (pc := 243) hx hb d_R_draw_243 rfl hl (by decide) (lv' := [(3, .int ((0 : Int32))), (2, .int ((0 : Int32))), (0, .ref (ad 154)), (1, .int (x0))]) rfl (fun ls hl => ?_)
  obtain ⟨z40, hz40, hE⟩ := xs_b hE
  refine L244 _ _ _ _ _ _ _ _ _ hz40 G (lv_sub hl [2, 3, 1, 0] rfl) (fun H locs ls G hl => ?_)
  refine lv_iload_n (pc := 274) hx hb d_R_draw_274 rfl (lv_at hl 2 rfl) ?_
  cases hE
  exact xs_iret (pc := 275) hx hb hr hlk G d_R_draw_275
def fn_R_colour (μ0 : xs_M) (x0 : Int32) (x1 : Int32) : Option (Int32 × xs_M) :=
  ((fn_R_isPixel μ0 x0 x1).bind fun w1 => (if w1 = 0 then ((some (xs_si μ0 154 0 (1 : Int32))).bind fun μ2 => some (((0 : Int32), μ2))) else ((some (xs_si μ0 154 0 (0 : Int32))).bind fun μ3 => (if xs_in (((16 : Int32) * x1) + x0) 192 = true then some (((μ3.1 168 (((16 : Int32) * x1) + x0).toNatClampNeg), μ3)) else none))))
set_option maxHeartbeats 4000000 in
set_option maxRecDepth 100000 in
theorem ok_R_colour (l : Launch) (D : va_G) (ad : Nat → Nat) (cs : xs_cs) (hJ : xs_J ad) {μ0 : xs_M} {x0 : Int32} {x1 : Int32}  {rz : (Int32 × xs_M)} (hE : fn_R_colour μ0 x0 x1 = some rz) : xs_I l D ad cs y_R_colour b_R_colour 3 (some .int) 1 21 [.ref (ad 154), .int (x0), .int (x1)] μ0 (some (.int rz.1)) rz.2 := by
  refine xs_entry hJ (by decide) (Nat.le_of_ble_eq_true rfl) ?_
  intro p e s m below meth c ls X hr hlk G hl
  have X : xs_C p s m c b_R_colour 3 _ "ExactSceneModel" := X
  have hx := X.1
  have hb := X.2.1
  have hl : lv_has ls 3 [(0, .ref (ad 154)), (1, .int (x0)), (2, .int (x1))] := hl
  unfold fn_R_colour at hE
  refine lv_aload_n (pc := 0) hx hb d_R_colour_0 rfl (lv_at hl 0 rfl) ?_
  refine lv_iload_n (pc := 1) hx hb d_R_colour_1 rfl (lv_at hl 1 rfl) ?_
  refine lv_iload_n (pc := 2) hx hb d_R_colour_2 rfl (lv_at hl 2 rfl) ?_
  obtain ⟨w1, hw1, hE⟩ := xs_b hE
  refine xs_callSr (pc := 3) (as := [.int (x0), .int (x1)]) X (ok_R_isPixel l D ad cs hJ hw1) km_R_126 G ⟨by decide, by decide⟩ ⟨Nat.zero_le _, Nat.zero_le _⟩ rfl hl.1 rfl (Nat.le_of_ble_eq_true rfl) d_R_colour_3 (fun H locs G => ?_)
  refine lv_if_eq (pc := 6) (tgt := 13) hx hb d_R_colour_6 (by decide) (fun hc => ?_) (fun hc => ?_)
  · have hE := xs_t hE hc
    refine lv_iconst (pc := 13) (v := (1 : Int32)) hx hb d_R_colour_13 (by decide) ?_
    refine pf_R_59 (pc := 14) X G d_R_colour_14 (fun H locs G => ?_)
    obtain ⟨μ2, hμ2, hE⟩ := xs_b hE
    have G := xs_mv G hμ2
    have hfμ2 := xs_fi hμ2
    clear hμ2
    refine lv_aload_n (pc := 17) hx hb d_R_colour_17 rfl (lv_at hl 0 rfl) ?_
    refine gf_R_59 (pc := 18) X G d_R_colour_18 ?_
    refine xs_tq hfμ2 ?_
    refine lv_if_le (pc := 21) (tgt := 28) hx hb d_R_colour_21 (by decide) (fun hc => ?_) (fun hc => ?_)
    · exact absurd hc (by decide)
    · refine lv_iconst (pc := 24) (v := (0 : Int32)) hx hb d_R_colour_24 (by decide) ?_
      refine lv_goto (pc := 25) (tgt := 39) hx hb d_R_colour_25 (by decide) ?_
      cases hE
      exact xs_iret (pc := 39) hx hb hr hlk G d_R_colour_39
  · have hE := xs_f hE hc
    refine lv_iconst (pc := 9) (v := (0 : Int32)) hx hb d_R_colour_9 (by decide) ?_
    refine lv_goto (pc := 10) (tgt := 14) hx hb d_R_colour_10 (by decide) ?_
    refine pf_R_59 (pc := 14) X G d_R_colour_14 (fun H locs G => ?_)
    obtain ⟨μ3, hμ3, hE⟩ := xs_b hE
    have G := xs_mv G hμ3
    have hfμ3 := xs_fi hμ3
    clear hμ3
    refine lv_aload_n (pc := 17) hx hb d_R_colour_17 rfl (lv_at hl 0 rfl) ?_
    refine gf_R_59 (pc := 18) X G d_R_colour_18 ?_
    refine xs_tq hfμ3 ?_
    refine lv_if_le (pc := 21) (tgt := 28) hx hb d_R_colour_21 (by decide) (fun hc => ?_) (fun hc => ?_)
    · refine lv_aload_n (pc := 28) hx hb d_R_colour_28 rfl (lv_at hl 0 rfl) ?_
      refine gf_R_50 (pc := 29) X G d_R_colour_29 ?_
      refine lv_bipush (pc := 32) (v := (16 : Int32)) hx hb d_R_colour_32 (by decide) ?_
      refine lv_iload_n (pc := 34) hx hb d_R_colour_34 rfl (lv_at hl 2 rfl) ?_
      refine lv_imul (pc := 35) hx hb d_R_colour_35 ?_
      refine lv_iload_n (pc := 36) hx hb d_R_colour_36 rfl (lv_at hl 1 rfl) ?_
      refine lv_iadd (pc := 37) hx hb d_R_colour_37 ?_
      obtain ⟨hi4, hE⟩ := xs_n hE
      refine xs_iald (pc := 38) hx hb G ia_168 (xs_inP hi4) d_R_colour_38 ?_
      cases hE
      exact xs_iret (pc := 39) hx hb hr hlk G d_R_colour_39
    · exact absurd hc (by decide)
def fn_R_owner (μ0 : xs_M) (x0 : Int32) (x1 : Int32) : Option (Int32 × xs_M) :=
  ((fn_R_isPixel μ0 x0 x1).bind fun w1 => (if w1 = 0 then ((some (xs_si μ0 154 0 (1 : Int32))).bind fun μ2 => some (((0 : Int32), μ2))) else ((some (xs_si μ0 154 0 (0 : Int32))).bind fun μ3 => (if xs_in (((16 : Int32) * x1) + x0) 192 = true then some (((μ3.1 167 (((16 : Int32) * x1) + x0).toNatClampNeg), μ3)) else none))))
set_option maxHeartbeats 4000000 in
set_option maxRecDepth 100000 in
theorem ok_R_owner (l : Launch) (D : va_G) (ad : Nat → Nat) (cs : xs_cs) (hJ : xs_J ad) {μ0 : xs_M} {x0 : Int32} {x1 : Int32}  {rz : (Int32 × xs_M)} (hE : fn_R_owner μ0 x0 x1 = some rz) : xs_I l D ad cs y_R_owner b_R_owner 3 (some .int) 1 21 [.ref (ad 154), .int (x0), .int (x1)] μ0 (some (.int rz.1)) rz.2 := by
  refine xs_entry hJ (by decide) (Nat.le_of_ble_eq_true rfl) ?_
  intro p e s m below meth c ls X hr hlk G hl
  have X : xs_C p s m c b_R_owner 3 _ "ExactSceneModel" := X
  have hx := X.1
  have hb := X.2.1
  have hl : lv_has ls 3 [(0, .ref (ad 154)), (1, .int (x0)), (2, .int (x1))] := hl
  unfold fn_R_owner at hE
  refine lv_aload_n (pc := 0) hx hb d_R_owner_0 rfl (lv_at hl 0 rfl) ?_
  refine lv_iload_n (pc := 1) hx hb d_R_owner_1 rfl (lv_at hl 1 rfl) ?_
  refine lv_iload_n (pc := 2) hx hb d_R_owner_2 rfl (lv_at hl 2 rfl) ?_
  obtain ⟨w1, hw1, hE⟩ := xs_b hE
  refine xs_callSr (pc := 3) (as := [.int (x0), .int (x1)]) X (ok_R_isPixel l D ad cs hJ hw1) km_R_126 G ⟨by decide, by decide⟩ ⟨Nat.zero_le _, Nat.zero_le _⟩ rfl hl.1 rfl (Nat.le_of_ble_eq_true rfl) d_R_owner_3 (fun H locs G => ?_)
  refine lv_if_eq (pc := 6) (tgt := 13) hx hb d_R_owner_6 (by decide) (fun hc => ?_) (fun hc => ?_)
  · have hE := xs_t hE hc
    refine lv_iconst (pc := 13) (v := (1 : Int32)) hx hb d_R_owner_13 (by decide) ?_
    refine pf_R_59 (pc := 14) X G d_R_owner_14 (fun H locs G => ?_)
    obtain ⟨μ2, hμ2, hE⟩ := xs_b hE
    have G := xs_mv G hμ2
    have hfμ2 := xs_fi hμ2
    clear hμ2
    refine lv_aload_n (pc := 17) hx hb d_R_owner_17 rfl (lv_at hl 0 rfl) ?_
    refine gf_R_59 (pc := 18) X G d_R_owner_18 ?_
    refine xs_tq hfμ2 ?_
    refine lv_if_le (pc := 21) (tgt := 28) hx hb d_R_owner_21 (by decide) (fun hc => ?_) (fun hc => ?_)
    · exact absurd hc (by decide)
    · refine lv_iconst (pc := 24) (v := (0 : Int32)) hx hb d_R_owner_24 (by decide) ?_
      refine lv_goto (pc := 25) (tgt := 39) hx hb d_R_owner_25 (by decide) ?_
      cases hE
      exact xs_iret (pc := 39) hx hb hr hlk G d_R_owner_39
  · have hE := xs_f hE hc
    refine lv_iconst (pc := 9) (v := (0 : Int32)) hx hb d_R_owner_9 (by decide) ?_
    refine lv_goto (pc := 10) (tgt := 14) hx hb d_R_owner_10 (by decide) ?_
    refine pf_R_59 (pc := 14) X G d_R_owner_14 (fun H locs G => ?_)
    obtain ⟨μ3, hμ3, hE⟩ := xs_b hE
    have G := xs_mv G hμ3
    have hfμ3 := xs_fi hμ3
    clear hμ3
    refine lv_aload_n (pc := 17) hx hb d_R_owner_17 rfl (lv_at hl 0 rfl) ?_
    refine gf_R_59 (pc := 18) X G d_R_owner_18 ?_
    refine xs_tq hfμ3 ?_
    refine lv_if_le (pc := 21) (tgt := 28) hx hb d_R_owner_21 (by decide) (fun hc => ?_) (fun hc => ?_)
    · refine lv_aload_n (pc := 28) hx hb d_R_owner_28 rfl (lv_at hl 0 rfl) ?_
      refine gf_R_47 (pc := 29) X G d_R_owner_29 ?_
      refine lv_bipush (pc := 32) (v := (16 : Int32)) hx hb d_R_owner_32 (by decide) ?_
      refine lv_iload_n (pc := 34) hx hb d_R_owner_34 rfl (lv_at hl 2 rfl) ?_
      refine lv_imul (pc := 35) hx hb d_R_owner_35 ?_
      refine lv_iload_n (pc := 36) hx hb d_R_owner_36 rfl (lv_at hl 1 rfl) ?_
      refine lv_iadd (pc := 37) hx hb d_R_owner_37 ?_
      obtain ⟨hi4, hE⟩ := xs_n hE
      refine xs_iald (pc := 38) hx hb G ia_167 (xs_inP hi4) d_R_owner_38 ?_
      cases hE
      exact xs_iret (pc := 39) hx hb hr hlk G d_R_owner_39
    · exact absurd hc (by decide)
def fn_R_compare (μ0 : xs_M) (x0 : Int32) (x1 : Int32) (x2 : Int32) (x3 : Int32) : Option (Int32 × xs_M) :=
  ((fn_R_isPixel μ0 x0 x1).bind fun w1 => (if w1 = 0 then ((some (xs_si μ0 154 0 (1 : Int32))).bind fun μ2 => some (((0 : Int32), μ2))) else ((fn_R_isPixel μ0 x2 x3).bind fun w3 => (if w3 = 0 then ((some (xs_si μ0 154 0 (1 : Int32))).bind fun μ14 => some (((0 : Int32), μ14))) else (if xs_in (((16 : Int32) * x1) + x0) 192 = true then (if (μ0.1 167 (((16 : Int32) * x1) + x0).toNatClampNeg) < 0 then ((some (xs_si μ0 154 0 (2 : Int32))).bind fun μ5 => some (((0 : Int32), μ5))) else (if xs_in (((16 : Int32) * x3) + x2) 192 = true then (if 0 ≤ (μ0.1 167 (((16 : Int32) * x3) + x2).toNatClampNeg) then ((some (xs_si μ0 154 0 (0 : Int32))).bind fun μ7 => (if xs_in (((16 : Int32) * x1) + x0) 192 = true then (if xs_in (((16 : Int32) * x1) + x0) 192 = true then (if xs_in (((16 : Int32) * x3) + x2) 192 = true then (if xs_in (((16 : Int32) * x3) + x2) 192 = true then ((fn_R_order μ7 (μ7.2 169 (((16 : Int32) * x1) + x0).toNatClampNeg) (μ7.2 170 (((16 : Int32) * x1) + x0).toNatClampNeg) (μ7.2 169 (((16 : Int32) * x3) + x2).toNatClampNeg) (μ7.2 170 (((16 : Int32) * x3) + x2).toNatClampNeg)).bind fun w12 => some ((w12, μ7))) else none) else none) else none) else none)) else ((some (xs_si μ0 154 0 (2 : Int32))).bind fun μ13 => some (((0 : Int32), μ13)))) else none)) else none)))))
set_option maxHeartbeats 4000000 in
set_option maxRecDepth 100000 in
theorem ok_R_compare (l : Launch) (D : va_G) (ad : Nat → Nat) (cs : xs_cs) (hJ : xs_J ad) {μ0 : xs_M} {x0 : Int32} {x1 : Int32} {x2 : Int32} {x3 : Int32}  {rz : (Int32 × xs_M)} (hE : fn_R_compare μ0 x0 x1 x2 x3 = some rz) : xs_I l D ad cs y_R_compare b_R_compare 5 (some .int) 2 69 [.ref (ad 154), .int (x0), .int (x1), .int (x2), .int (x3)] μ0 (some (.int rz.1)) rz.2 := by
  refine xs_entry hJ (by decide) (Nat.le_of_ble_eq_true rfl) ?_
  intro p e s m below meth c ls X hr hlk G hl
  have X : xs_C p s m c b_R_compare 5 _ "ExactSceneModel" := X
  have hx := X.1
  have hb := X.2.1
  have hl : lv_has ls 5 [(0, .ref (ad 154)), (1, .int (x0)), (2, .int (x1)), (3, .int (x2)), (4, .int (x3))] := hl
  unfold fn_R_compare at hE
  refine lv_aload_n (pc := 0) hx hb d_R_compare_0 rfl (lv_at hl 0 rfl) ?_
  refine lv_iload_n (pc := 1) hx hb d_R_compare_1 rfl (lv_at hl 1 rfl) ?_
  refine lv_iload_n (pc := 2) hx hb d_R_compare_2 rfl (lv_at hl 2 rfl) ?_
  obtain ⟨w1, hw1, hE⟩ := xs_b hE
  refine xs_callSr (pc := 3) (as := [.int (x0), .int (x1)]) X (ok_R_isPixel l D ad cs hJ hw1) km_R_126 G ⟨by decide, by decide⟩ ⟨Nat.zero_le _, Nat.zero_le _⟩ rfl hl.1 rfl (Nat.le_of_ble_eq_true rfl) d_R_compare_3 (fun H locs G => ?_)
  refine lv_if_eq (pc := 6) (tgt := 18) hx hb d_R_compare_6 (by decide) (fun hc => ?_) (fun hc => ?_)
  · have hE := xs_t hE hc
    refine lv_iconst (pc := 18) (v := (1 : Int32)) hx hb d_R_compare_18 (by decide) ?_
    refine lv_goto (pc := 19) (tgt := 56) hx hb d_R_compare_19 (by decide) ?_
    refine pf_R_59 (pc := 56) X G d_R_compare_56 (fun H locs G => ?_)
    obtain ⟨μ2, hμ2, hE⟩ := xs_b hE
    have G := xs_mv G hμ2
    have hfμ2 := xs_fi hμ2
    clear hμ2
    refine lv_aload_n (pc := 59) hx hb d_R_compare_59 rfl (lv_at hl 0 rfl) ?_
    refine gf_R_59 (pc := 60) X G d_R_compare_60 ?_
    refine xs_tq hfμ2 ?_
    refine lv_if_le (pc := 63) (tgt := 70) hx hb d_R_compare_63 (by decide) (fun hc => ?_) (fun hc => ?_)
    · exact absurd hc (by decide)
    · refine lv_iconst (pc := 66) (v := (0 : Int32)) hx hb d_R_compare_66 (by decide) ?_
      refine lv_goto (pc := 67) (tgt := 119) hx hb d_R_compare_67 (by decide) ?_
      cases hE
      exact xs_iret (pc := 119) hx hb hr hlk G d_R_compare_119
  · have hE := xs_f hE hc
    refine lv_iload_n (pc := 9) hx hb d_R_compare_9 rfl (lv_at hl 3 rfl) ?_
    refine lv_iload (pc := 10) hx hb d_R_compare_10 (lv_at hl 4 rfl) ?_
    obtain ⟨w3, hw3, hE⟩ := xs_b hE
    refine xs_callSr (pc := 12) (as := [.int (x2), .int (x3)]) X (ok_R_isPixel l D ad cs hJ hw3) km_R_126 G ⟨by decide, by decide⟩ ⟨Nat.zero_le _, Nat.zero_le _⟩ rfl hl.1 rfl (Nat.le_of_ble_eq_true rfl) d_R_compare_12 (fun H locs G => ?_)
    refine lv_if_ne (pc := 15) (tgt := 22) hx hb d_R_compare_15 (by decide) (fun hc => ?_) (fun hc => ?_)
    · have hE := xs_f hE hc
      refine lv_aload_n (pc := 22) hx hb d_R_compare_22 rfl (lv_at hl 0 rfl) ?_
      refine gf_R_47 (pc := 23) X G d_R_compare_23 ?_
      refine lv_bipush (pc := 26) (v := (16 : Int32)) hx hb d_R_compare_26 (by decide) ?_
      refine lv_iload_n (pc := 28) hx hb d_R_compare_28 rfl (lv_at hl 2 rfl) ?_
      refine lv_imul (pc := 29) hx hb d_R_compare_29 ?_
      refine lv_iload_n (pc := 30) hx hb d_R_compare_30 rfl (lv_at hl 1 rfl) ?_
      refine lv_iadd (pc := 31) hx hb d_R_compare_31 ?_
      obtain ⟨hi4, hE⟩ := xs_n hE
      refine xs_iald (pc := 32) hx hb G ia_167 (xs_inP hi4) d_R_compare_32 ?_
      refine lv_if_lt (pc := 33) (tgt := 51) hx hb d_R_compare_33 (by decide) (fun hc => ?_) (fun hc => ?_)
      · have hE := xs_t hE hc
        refine lv_iconst (pc := 51) (v := (2 : Int32)) hx hb d_R_compare_51 (by decide) ?_
        refine lv_goto (pc := 52) (tgt := 56) hx hb d_R_compare_52 (by decide) ?_
        refine pf_R_59 (pc := 56) X G d_R_compare_56 (fun H locs G => ?_)
        obtain ⟨μ5, hμ5, hE⟩ := xs_b hE
        have G := xs_mv G hμ5
        have hfμ5 := xs_fi hμ5
        clear hμ5
        refine lv_aload_n (pc := 59) hx hb d_R_compare_59 rfl (lv_at hl 0 rfl) ?_
        refine gf_R_59 (pc := 60) X G d_R_compare_60 ?_
        refine xs_tq hfμ5 ?_
        refine lv_if_le (pc := 63) (tgt := 70) hx hb d_R_compare_63 (by decide) (fun hc => ?_) (fun hc => ?_)
        · exact absurd hc (by decide)
        · refine lv_iconst (pc := 66) (v := (0 : Int32)) hx hb d_R_compare_66 (by decide) ?_
          refine lv_goto (pc := 67) (tgt := 119) hx hb d_R_compare_67 (by decide) ?_
          cases hE
          exact xs_iret (pc := 119) hx hb hr hlk G d_R_compare_119
      · have hE := xs_f hE hc
        refine lv_aload_n (pc := 36) hx hb d_R_compare_36 rfl (lv_at hl 0 rfl) ?_
        refine gf_R_47 (pc := 37) X G d_R_compare_37 ?_
        refine lv_bipush (pc := 40) (v := (16 : Int32)) hx hb d_R_compare_40 (by decide) ?_
        refine lv_iload (pc := 42) hx hb d_R_compare_42 (lv_at hl 4 rfl) ?_
        refine lv_imul (pc := 44) hx hb d_R_compare_44 ?_
        refine lv_iload_n (pc := 45) hx hb d_R_compare_45 rfl (lv_at hl 3 rfl) ?_
        refine lv_iadd (pc := 46) hx hb d_R_compare_46 ?_
        obtain ⟨hi6, hE⟩ := xs_n hE
        refine xs_iald (pc := 47) hx hb G ia_167 (xs_inP hi6) d_R_compare_47 ?_
        refine lv_if_ge (pc := 48) (tgt := 55) hx hb d_R_compare_48 (by decide) (fun hc => ?_) (fun hc => ?_)
        · have hE := xs_t hE hc
          refine lv_iconst (pc := 55) (v := (0 : Int32)) hx hb d_R_compare_55 (by decide) ?_
          refine pf_R_59 (pc := 56) X G d_R_compare_56 (fun H locs G => ?_)
          obtain ⟨μ7, hμ7, hE⟩ := xs_b hE
          have G := xs_mv G hμ7
          have hfμ7 := xs_fi hμ7
          clear hμ7
          refine lv_aload_n (pc := 59) hx hb d_R_compare_59 rfl (lv_at hl 0 rfl) ?_
          refine gf_R_59 (pc := 60) X G d_R_compare_60 ?_
          refine xs_tq hfμ7 ?_
          refine lv_if_le (pc := 63) (tgt := 70) hx hb d_R_compare_63 (by decide) (fun hc => ?_) (fun hc => ?_)
          · refine lv_aload_n (pc := 70) hx hb d_R_compare_70 rfl (lv_at hl 0 rfl) ?_
            refine gf_R_53 (pc := 71) X G d_R_compare_71 ?_
            refine lv_bipush (pc := 74) (v := (16 : Int32)) hx hb d_R_compare_74 (by decide) ?_
            refine lv_iload_n (pc := 76) hx hb d_R_compare_76 rfl (lv_at hl 2 rfl) ?_
            refine lv_imul (pc := 77) hx hb d_R_compare_77 ?_
            refine lv_iload_n (pc := 78) hx hb d_R_compare_78 rfl (lv_at hl 1 rfl) ?_
            refine lv_iadd (pc := 79) hx hb d_R_compare_79 ?_
            obtain ⟨hi8, hE⟩ := xs_n hE
            refine xs_lald (pc := 80) hx hb G la_169 (xs_inP hi8) d_R_compare_80 ?_
            refine lv_aload_n (pc := 81) hx hb d_R_compare_81 rfl (lv_at hl 0 rfl) ?_
            refine gf_R_56 (pc := 82) X G d_R_compare_82 ?_
            refine lv_bipush (pc := 85) (v := (16 : Int32)) hx hb d_R_compare_85 (by decide) ?_
            refine lv_iload_n (pc := 87) hx hb d_R_compare_87 rfl (lv_at hl 2 rfl) ?_
            refine lv_imul (pc := 88) hx hb d_R_compare_88 ?_
            refine lv_iload_n (pc := 89) hx hb d_R_compare_89 rfl (lv_at hl 1 rfl) ?_
            refine lv_iadd (pc := 90) hx hb d_R_compare_90 ?_
            obtain ⟨hi9, hE⟩ := xs_n hE
            refine xs_lald (pc := 91) hx hb G la_170 (xs_inP hi9) d_R_compare_91 ?_
            refine lv_aload_n (pc := 92) hx hb d_R_compare_92 rfl (lv_at hl 0 rfl) ?_
            refine gf_R_53 (pc := 93) X G d_R_compare_93 ?_
            refine lv_bipush (pc := 96) (v := (16 : Int32)) hx hb d_R_compare_96 (by decide) ?_
            refine lv_iload (pc := 98) hx hb d_R_compare_98 (lv_at hl 4 rfl) ?_
            refine lv_imul (pc := 100) hx hb d_R_compare_100 ?_
            refine lv_iload_n (pc := 101) hx hb d_R_compare_101 rfl (lv_at hl 3 rfl) ?_
            refine lv_iadd (pc := 102) hx hb d_R_compare_102 ?_
            obtain ⟨hi10, hE⟩ := xs_n hE
            refine xs_lald (pc := 103) hx hb G la_169 (xs_inP hi10) d_R_compare_103 ?_
            refine lv_aload_n (pc := 104) hx hb d_R_compare_104 rfl (lv_at hl 0 rfl) ?_
            refine gf_R_56 (pc := 105) X G d_R_compare_105 ?_
            refine lv_bipush (pc := 108) (v := (16 : Int32)) hx hb d_R_compare_108 (by decide) ?_
            refine lv_iload (pc := 110) hx hb d_R_compare_110 (lv_at hl 4 rfl) ?_
            refine lv_imul (pc := 112) hx hb d_R_compare_112 ?_
            refine lv_iload_n (pc := 113) hx hb d_R_compare_113 rfl (lv_at hl 3 rfl) ?_
            refine lv_iadd (pc := 114) hx hb d_R_compare_114 ?_
            obtain ⟨hi11, hE⟩ := xs_n hE
            refine xs_lald (pc := 115) hx hb G la_170 (xs_inP hi11) d_R_compare_115 ?_
            obtain ⟨w12, hw12, hE⟩ := xs_b hE
            refine xs_callSr (pc := 116) (as := [.long ((μ7.2 169 (((16 : Int32) * x1) + x0).toNatClampNeg)), .long ((μ7.2 170 (((16 : Int32) * x1) + x0).toNatClampNeg)), .long ((μ7.2 169 (((16 : Int32) * x3) + x2).toNatClampNeg)), .long ((μ7.2 170 (((16 : Int32) * x3) + x2).toNatClampNeg))]) X (ok_R_order l D ad cs hJ hw12) km_R_118 G ⟨by decide, by decide⟩ ⟨Nat.zero_le _, Nat.zero_le _⟩ rfl hl.1 rfl (Nat.le_of_ble_eq_true rfl) d_R_compare_116 (fun H locs G => ?_)
            cases hE
            exact xs_iret (pc := 119) hx hb hr hlk G d_R_compare_119
          · exact absurd hc (by decide)
        · have hE := xs_f hE hc
          refine lv_iconst (pc := 51) (v := (2 : Int32)) hx hb d_R_compare_51 (by decide) ?_
          refine lv_goto (pc := 52) (tgt := 56) hx hb d_R_compare_52 (by decide) ?_
          refine pf_R_59 (pc := 56) X G d_R_compare_56 (fun H locs G => ?_)
          obtain ⟨μ13, hμ13, hE⟩ := xs_b hE
          have G := xs_mv G hμ13
          have hfμ13 := xs_fi hμ13
          clear hμ13
          refine lv_aload_n (pc := 59) hx hb d_R_compare_59 rfl (lv_at hl 0 rfl) ?_
          refine gf_R_59 (pc := 60) X G d_R_compare_60 ?_
          refine xs_tq hfμ13 ?_
          refine lv_if_le (pc := 63) (tgt := 70) hx hb d_R_compare_63 (by decide) (fun hc => ?_) (fun hc => ?_)
          · exact absurd hc (by decide)
          · refine lv_iconst (pc := 66) (v := (0 : Int32)) hx hb d_R_compare_66 (by decide) ?_
            refine lv_goto (pc := 67) (tgt := 119) hx hb d_R_compare_67 (by decide) ?_
            cases hE
            exact xs_iret (pc := 119) hx hb hr hlk G d_R_compare_119
    · have hE := xs_t hE hc
      refine lv_iconst (pc := 18) (v := (1 : Int32)) hx hb d_R_compare_18 (by decide) ?_
      refine lv_goto (pc := 19) (tgt := 56) hx hb d_R_compare_19 (by decide) ?_
      refine pf_R_59 (pc := 56) X G d_R_compare_56 (fun H locs G => ?_)
      obtain ⟨μ14, hμ14, hE⟩ := xs_b hE
      have G := xs_mv G hμ14
      have hfμ14 := xs_fi hμ14
      clear hμ14
      refine lv_aload_n (pc := 59) hx hb d_R_compare_59 rfl (lv_at hl 0 rfl) ?_
      refine gf_R_59 (pc := 60) X G d_R_compare_60 ?_
      refine xs_tq hfμ14 ?_
      refine lv_if_le (pc := 63) (tgt := 70) hx hb d_R_compare_63 (by decide) (fun hc => ?_) (fun hc => ?_)
      · exact absurd hc (by decide)
      · refine lv_iconst (pc := 66) (v := (0 : Int32)) hx hb d_R_compare_66 (by decide) ?_
        refine lv_goto (pc := 67) (tgt := 119) hx hb d_R_compare_67 (by decide) ?_
        cases hE
        exact xs_iret (pc := 119) hx hb hr hlk G d_R_compare_119
def fn_R_depth (μ0 : xs_M) (x0 : Int32) (x1 : Int32) : Option (Int64 × xs_M) :=
  ((fn_R_isPixel μ0 x0 x1).bind fun w1 => (if w1 = 0 then ((some (xs_si μ0 154 0 (1 : Int32))).bind fun μ8 => some (((0 : Int64), μ8))) else (if xs_in (((16 : Int32) * x1) + x0) 192 = true then (if 0 ≤ (μ0.1 167 (((16 : Int32) * x1) + x0).toNatClampNeg) then ((some (xs_si μ0 154 0 (0 : Int32))).bind fun μ3 => (if xs_in (((16 : Int32) * x1) + x0) 192 = true then (if xs_in (((16 : Int32) * x1) + x0) 192 = true then ((fn_R_floor μ3 (μ3.2 169 (((16 : Int32) * x1) + x0).toNatClampNeg) (μ3.2 170 (((16 : Int32) * x1) + x0).toNatClampNeg)).bind fun w6 => some ((w6, μ3))) else none) else none)) else ((some (xs_si μ0 154 0 (2 : Int32))).bind fun μ7 => some (((0 : Int64), μ7)))) else none)))
set_option maxHeartbeats 4000000 in
set_option maxRecDepth 100000 in
theorem ok_R_depth (l : Launch) (D : va_G) (ad : Nat → Nat) (cs : xs_cs) (hJ : xs_J ad) {μ0 : xs_M} {x0 : Int32} {x1 : Int32}  {rz : (Int64 × xs_M)} (hE : fn_R_depth μ0 x0 x1 = some rz) : xs_I l D ad cs y_R_depth b_R_depth 3 (some .long) 1 25 [.ref (ad 154), .int (x0), .int (x1)] μ0 (some (.long rz.1)) rz.2 := by
  refine xs_entry hJ (by decide) (Nat.le_of_ble_eq_true rfl) ?_
  intro p e s m below meth c ls X hr hlk G hl
  have X : xs_C p s m c b_R_depth 3 _ "ExactSceneModel" := X
  have hx := X.1
  have hb := X.2.1
  have hl : lv_has ls 3 [(0, .ref (ad 154)), (1, .int (x0)), (2, .int (x1))] := hl
  unfold fn_R_depth at hE
  refine lv_aload_n (pc := 0) hx hb d_R_depth_0 rfl (lv_at hl 0 rfl) ?_
  refine lv_iload_n (pc := 1) hx hb d_R_depth_1 rfl (lv_at hl 1 rfl) ?_
  refine lv_iload_n (pc := 2) hx hb d_R_depth_2 rfl (lv_at hl 2 rfl) ?_
  obtain ⟨w1, hw1, hE⟩ := xs_b hE
  refine xs_callSr (pc := 3) (as := [.int (x0), .int (x1)]) X (ok_R_isPixel l D ad cs hJ hw1) km_R_126 G ⟨by decide, by decide⟩ ⟨Nat.zero_le _, Nat.zero_le _⟩ rfl hl.1 rfl (Nat.le_of_ble_eq_true rfl) d_R_depth_3 (fun H locs G => ?_)
  refine lv_if_ne (pc := 6) (tgt := 13) hx hb d_R_depth_6 (by decide) (fun hc => ?_) (fun hc => ?_)
  · have hE := xs_f hE hc
    refine lv_aload_n (pc := 13) hx hb d_R_depth_13 rfl (lv_at hl 0 rfl) ?_
    refine gf_R_47 (pc := 14) X G d_R_depth_14 ?_
    refine lv_bipush (pc := 17) (v := (16 : Int32)) hx hb d_R_depth_17 (by decide) ?_
    refine lv_iload_n (pc := 19) hx hb d_R_depth_19 rfl (lv_at hl 2 rfl) ?_
    refine lv_imul (pc := 20) hx hb d_R_depth_20 ?_
    refine lv_iload_n (pc := 21) hx hb d_R_depth_21 rfl (lv_at hl 1 rfl) ?_
    refine lv_iadd (pc := 22) hx hb d_R_depth_22 ?_
    obtain ⟨hi2, hE⟩ := xs_n hE
    refine xs_iald (pc := 23) hx hb G ia_167 (xs_inP hi2) d_R_depth_23 ?_
    refine lv_if_ge (pc := 24) (tgt := 31) hx hb d_R_depth_24 (by decide) (fun hc => ?_) (fun hc => ?_)
    · have hE := xs_t hE hc
      refine lv_iconst (pc := 31) (v := (0 : Int32)) hx hb d_R_depth_31 (by decide) ?_
      refine pf_R_59 (pc := 32) X G d_R_depth_32 (fun H locs G => ?_)
      obtain ⟨μ3, hμ3, hE⟩ := xs_b hE
      have G := xs_mv G hμ3
      have hfμ3 := xs_fi hμ3
      clear hμ3
      refine lv_aload_n (pc := 35) hx hb d_R_depth_35 rfl (lv_at hl 0 rfl) ?_
      refine gf_R_59 (pc := 36) X G d_R_depth_36 ?_
      refine xs_tq hfμ3 ?_
      refine lv_if_le (pc := 39) (tgt := 46) hx hb d_R_depth_39 (by decide) (fun hc => ?_) (fun hc => ?_)
      · refine lv_aload_n (pc := 46) hx hb d_R_depth_46 rfl (lv_at hl 0 rfl) ?_
        refine gf_R_53 (pc := 47) X G d_R_depth_47 ?_
        refine lv_bipush (pc := 50) (v := (16 : Int32)) hx hb d_R_depth_50 (by decide) ?_
        refine lv_iload_n (pc := 52) hx hb d_R_depth_52 rfl (lv_at hl 2 rfl) ?_
        refine lv_imul (pc := 53) hx hb d_R_depth_53 ?_
        refine lv_iload_n (pc := 54) hx hb d_R_depth_54 rfl (lv_at hl 1 rfl) ?_
        refine lv_iadd (pc := 55) hx hb d_R_depth_55 ?_
        obtain ⟨hi4, hE⟩ := xs_n hE
        refine xs_lald (pc := 56) hx hb G la_169 (xs_inP hi4) d_R_depth_56 ?_
        refine lv_aload_n (pc := 57) hx hb d_R_depth_57 rfl (lv_at hl 0 rfl) ?_
        refine gf_R_56 (pc := 58) X G d_R_depth_58 ?_
        refine lv_bipush (pc := 61) (v := (16 : Int32)) hx hb d_R_depth_61 (by decide) ?_
        refine lv_iload_n (pc := 63) hx hb d_R_depth_63 rfl (lv_at hl 2 rfl) ?_
        refine lv_imul (pc := 64) hx hb d_R_depth_64 ?_
        refine lv_iload_n (pc := 65) hx hb d_R_depth_65 rfl (lv_at hl 1 rfl) ?_
        refine lv_iadd (pc := 66) hx hb d_R_depth_66 ?_
        obtain ⟨hi5, hE⟩ := xs_n hE
        refine xs_lald (pc := 67) hx hb G la_170 (xs_inP hi5) d_R_depth_67 ?_
        obtain ⟨w6, hw6, hE⟩ := xs_b hE
        refine xs_callSr (pc := 68) (as := [.long ((μ3.2 169 (((16 : Int32) * x1) + x0).toNatClampNeg)), .long ((μ3.2 170 (((16 : Int32) * x1) + x0).toNatClampNeg))]) X (ok_R_floor l D ad cs hJ hw6) km_R_102 G ⟨by decide, by decide⟩ ⟨Nat.zero_le _, Nat.zero_le _⟩ rfl hl.1 rfl (Nat.le_of_ble_eq_true rfl) d_R_depth_68 (fun H locs G => ?_)
        cases hE
        exact xs_lret (pc := 71) hx hb hr hlk G d_R_depth_71
      · exact absurd hc (by decide)
    · have hE := xs_f hE hc
      refine lv_iconst (pc := 27) (v := (2 : Int32)) hx hb d_R_depth_27 (by decide) ?_
      refine lv_goto (pc := 28) (tgt := 32) hx hb d_R_depth_28 (by decide) ?_
      refine pf_R_59 (pc := 32) X G d_R_depth_32 (fun H locs G => ?_)
      obtain ⟨μ7, hμ7, hE⟩ := xs_b hE
      have G := xs_mv G hμ7
      have hfμ7 := xs_fi hμ7
      clear hμ7
      refine lv_aload_n (pc := 35) hx hb d_R_depth_35 rfl (lv_at hl 0 rfl) ?_
      refine gf_R_59 (pc := 36) X G d_R_depth_36 ?_
      refine xs_tq hfμ7 ?_
      refine lv_if_le (pc := 39) (tgt := 46) hx hb d_R_depth_39 (by decide) (fun hc => ?_) (fun hc => ?_)
      · exact absurd hc (by decide)
      · refine lv_lconst (pc := 42) (v := (0 : Int64)) hx hb d_R_depth_42 (by decide) ?_
        refine lv_goto (pc := 43) (tgt := 71) hx hb d_R_depth_43 (by decide) ?_
        cases hE
        exact xs_lret (pc := 71) hx hb hr hlk G d_R_depth_71
  · have hE := xs_t hE hc
    refine lv_iconst (pc := 9) (v := (1 : Int32)) hx hb d_R_depth_9 (by decide) ?_
    refine lv_goto (pc := 10) (tgt := 32) hx hb d_R_depth_10 (by decide) ?_
    refine pf_R_59 (pc := 32) X G d_R_depth_32 (fun H locs G => ?_)
    obtain ⟨μ8, hμ8, hE⟩ := xs_b hE
    have G := xs_mv G hμ8
    have hfμ8 := xs_fi hμ8
    clear hμ8
    refine lv_aload_n (pc := 35) hx hb d_R_depth_35 rfl (lv_at hl 0 rfl) ?_
    refine gf_R_59 (pc := 36) X G d_R_depth_36 ?_
    refine xs_tq hfμ8 ?_
    refine lv_if_le (pc := 39) (tgt := 46) hx hb d_R_depth_39 (by decide) (fun hc => ?_) (fun hc => ?_)
    · exact absurd hc (by decide)
    · refine lv_lconst (pc := 42) (v := (0 : Int64)) hx hb d_R_depth_42 (by decide) ?_
      refine lv_goto (pc := 43) (tgt := 71) hx hb d_R_depth_43 (by decide) ?_
      cases hE
      exact xs_lret (pc := 71) hx hb hr hlk G d_R_depth_71
def fn_R_triangle (μ0 : xs_M) (x0 : Int32) (x1 : Int32) : Option (Int64 × xs_M) :=
  (if x0 < 0 then ((some (xs_si μ0 154 0 (1 : Int32))).bind fun μ1 => some (((0 : Int64), μ1))) else (if ((μ0.1 154 9) / (3 : Int32)) ≤ x0 then ((some (xs_si μ0 154 0 (1 : Int32))).bind fun μ2 => some (((0 : Int64), μ2))) else (if x1 < 0 then ((some (xs_si μ0 154 0 (1 : Int32))).bind fun μ3 => some (((0 : Int64), μ3))) else (if x1 ≤ (12 : Int32) then ((some (xs_si μ0 154 0 (0 : Int32))).bind fun μ4 => (if x1 ≤ 0 then ((fn_R_prepare μ4 x0).bind fun w5 => some (((w5.2 154 14), w5))) else ((fn_R_placeOf μ4 x0 ((x1 - (1 : Int32)) / (4 : Int32)) ((x1 - (1 : Int32)) - (x1 - (1 : Int32)) / (4 : Int32) * (4 : Int32))).bind fun w6 => some ((w6, μ4))))) else ((some (xs_si μ0 154 0 (1 : Int32))).bind fun μ7 => some (((0 : Int64), μ7)))))))
set_option maxHeartbeats 4000000 in
set_option maxRecDepth 100000 in
theorem ok_R_triangle (l : Launch) (D : va_G) (ad : Nat → Nat) (cs : xs_cs) (hJ : xs_J ad) {μ0 : xs_M} {x0 : Int32} {x1 : Int32}  {rz : (Int64 × xs_M)} (hE : fn_R_triangle μ0 x0 x1 = some rz) : xs_I l D ad cs y_R_triangle b_R_triangle 3 (some .long) 2 47 [.ref (ad 154), .int (x0), .int (x1)] μ0 (some (.long rz.1)) rz.2 := by
  refine xs_entry hJ (by decide) (Nat.le_of_ble_eq_true rfl) ?_
  intro p e s m below meth c ls X hr hlk G hl
  have X : xs_C p s m c b_R_triangle 3 _ "ExactSceneModel" := X
  have hx := X.1
  have hb := X.2.1
  have hl : lv_has ls 3 [(0, .ref (ad 154)), (1, .int (x0)), (2, .int (x1))] := hl
  unfold fn_R_triangle at hE
  refine lv_aload_n (pc := 0) hx hb d_R_triangle_0 rfl (lv_at hl 0 rfl) ?_
  refine lv_iload_n (pc := 1) hx hb d_R_triangle_1 rfl (lv_at hl 1 rfl) ?_
  refine lv_if_lt (pc := 2) (tgt := 25) hx hb d_R_triangle_2 (by decide) (fun hc => ?_) (fun hc => ?_)
  · have hE := xs_t hE hc
    refine lv_iconst (pc := 25) (v := (1 : Int32)) hx hb d_R_triangle_25 (by decide) ?_
    refine lv_goto (pc := 26) (tgt := 30) hx hb d_R_triangle_26 (by decide) ?_
    refine pf_R_59 (pc := 30) X G d_R_triangle_30 (fun H locs G => ?_)
    obtain ⟨μ1, hμ1, hE⟩ := xs_b hE
    have G := xs_mv G hμ1
    have hfμ1 := xs_fi hμ1
    clear hμ1
    refine lv_aload_n (pc := 33) hx hb d_R_triangle_33 rfl (lv_at hl 0 rfl) ?_
    refine gf_R_59 (pc := 34) X G d_R_triangle_34 ?_
    refine xs_tq hfμ1 ?_
    refine lv_if_le (pc := 37) (tgt := 42) hx hb d_R_triangle_37 (by decide) (fun hc => ?_) (fun hc => ?_)
    · exact absurd hc (by decide)
    · refine lv_lconst (pc := 40) (v := (0 : Int64)) hx hb d_R_triangle_40 (by decide) ?_
      cases hE
      exact xs_lret (pc := 41) hx hb hr hlk G d_R_triangle_41
  · have hE := xs_f hE hc
    refine lv_iload_n (pc := 5) hx hb d_R_triangle_5 rfl (lv_at hl 1 rfl) ?_
    refine lv_aload_n (pc := 6) hx hb d_R_triangle_6 rfl (lv_at hl 0 rfl) ?_
    refine gf_R_78 (pc := 7) X G d_R_triangle_7 ?_
    refine lv_iconst (pc := 10) (v := (3 : Int32)) hx hb d_R_triangle_10 (by decide) ?_
    refine lv_idiv (pc := 11) hx hb d_R_triangle_11 (by decide) ?_
    refine lv_icmp_ge (pc := 12) (tgt := 25) hx hb d_R_triangle_12 (by decide) (fun hc => ?_) (fun hc => ?_)
    · have hE := xs_t hE hc
      refine lv_iconst (pc := 25) (v := (1 : Int32)) hx hb d_R_triangle_25 (by decide) ?_
      refine lv_goto (pc := 26) (tgt := 30) hx hb d_R_triangle_26 (by decide) ?_
      refine pf_R_59 (pc := 30) X G d_R_triangle_30 (fun H locs G => ?_)
      obtain ⟨μ2, hμ2, hE⟩ := xs_b hE
      have G := xs_mv G hμ2
      have hfμ2 := xs_fi hμ2
      clear hμ2
      refine lv_aload_n (pc := 33) hx hb d_R_triangle_33 rfl (lv_at hl 0 rfl) ?_
      refine gf_R_59 (pc := 34) X G d_R_triangle_34 ?_
      refine xs_tq hfμ2 ?_
      refine lv_if_le (pc := 37) (tgt := 42) hx hb d_R_triangle_37 (by decide) (fun hc => ?_) (fun hc => ?_)
      · exact absurd hc (by decide)
      · refine lv_lconst (pc := 40) (v := (0 : Int64)) hx hb d_R_triangle_40 (by decide) ?_
        cases hE
        exact xs_lret (pc := 41) hx hb hr hlk G d_R_triangle_41
    · have hE := xs_f hE hc
      refine lv_iload_n (pc := 15) hx hb d_R_triangle_15 rfl (lv_at hl 2 rfl) ?_
      refine lv_if_lt (pc := 16) (tgt := 25) hx hb d_R_triangle_16 (by decide) (fun hc => ?_) (fun hc => ?_)
      · have hE := xs_t hE hc
        refine lv_iconst (pc := 25) (v := (1 : Int32)) hx hb d_R_triangle_25 (by decide) ?_
        refine lv_goto (pc := 26) (tgt := 30) hx hb d_R_triangle_26 (by decide) ?_
        refine pf_R_59 (pc := 30) X G d_R_triangle_30 (fun H locs G => ?_)
        obtain ⟨μ3, hμ3, hE⟩ := xs_b hE
        have G := xs_mv G hμ3
        have hfμ3 := xs_fi hμ3
        clear hμ3
        refine lv_aload_n (pc := 33) hx hb d_R_triangle_33 rfl (lv_at hl 0 rfl) ?_
        refine gf_R_59 (pc := 34) X G d_R_triangle_34 ?_
        refine xs_tq hfμ3 ?_
        refine lv_if_le (pc := 37) (tgt := 42) hx hb d_R_triangle_37 (by decide) (fun hc => ?_) (fun hc => ?_)
        · exact absurd hc (by decide)
        · refine lv_lconst (pc := 40) (v := (0 : Int64)) hx hb d_R_triangle_40 (by decide) ?_
          cases hE
          exact xs_lret (pc := 41) hx hb hr hlk G d_R_triangle_41
      · have hE := xs_f hE hc
        refine lv_iload_n (pc := 19) hx hb d_R_triangle_19 rfl (lv_at hl 2 rfl) ?_
        refine lv_bipush (pc := 20) (v := (12 : Int32)) hx hb d_R_triangle_20 (by decide) ?_
        refine lv_icmp_le (pc := 22) (tgt := 29) hx hb d_R_triangle_22 (by decide) (fun hc => ?_) (fun hc => ?_)
        · have hE := xs_t hE hc
          refine lv_iconst (pc := 29) (v := (0 : Int32)) hx hb d_R_triangle_29 (by decide) ?_
          refine pf_R_59 (pc := 30) X G d_R_triangle_30 (fun H locs G => ?_)
          obtain ⟨μ4, hμ4, hE⟩ := xs_b hE
          have G := xs_mv G hμ4
          have hfμ4 := xs_fi hμ4
          clear hμ4
          refine lv_aload_n (pc := 33) hx hb d_R_triangle_33 rfl (lv_at hl 0 rfl) ?_
          refine gf_R_59 (pc := 34) X G d_R_triangle_34 ?_
          refine xs_tq hfμ4 ?_
          refine lv_if_le (pc := 37) (tgt := 42) hx hb d_R_triangle_37 (by decide) (fun hc => ?_) (fun hc => ?_)
          · refine lv_iload_n (pc := 42) hx hb d_R_triangle_42 rfl (lv_at hl 2 rfl) ?_
            refine lv_if_le (pc := 43) (tgt := 62) hx hb d_R_triangle_43 (by decide) (fun hc => ?_) (fun hc => ?_)
            · have hE := xs_t hE hc
              refine lv_aload_n (pc := 62) hx hb d_R_triangle_62 rfl (lv_at hl 0 rfl) ?_
              refine lv_iload_n (pc := 63) hx hb d_R_triangle_63 rfl (lv_at hl 1 rfl) ?_
              obtain ⟨w5, hw5, hE⟩ := xs_b hE
              refine xs_callVv (pc := 64) (as := [.int (x0)]) X (ok_R_prepare l D ad cs hJ hw5) km_R_108 G (xs_wR ad cs _) rfl ⟨by decide, by decide⟩ ⟨Nat.zero_le _, Nat.zero_le _⟩ rfl hl.1 rfl (Nat.le_of_ble_eq_true rfl) d_R_triangle_64 (fun H locs G => ?_)
              refine lv_aload_n (pc := 67) hx hb d_R_triangle_67 rfl (lv_at hl 0 rfl) ?_
              refine gf_R_98 (pc := 68) X G d_R_triangle_68 ?_
              cases hE
              exact xs_lret (pc := 71) hx hb hr hlk G d_R_triangle_71
            · have hE := xs_f hE hc
              refine lv_aload_n (pc := 46) hx hb d_R_triangle_46 rfl (lv_at hl 0 rfl) ?_
              refine lv_iload_n (pc := 47) hx hb d_R_triangle_47 rfl (lv_at hl 1 rfl) ?_
              refine lv_iload_n (pc := 48) hx hb d_R_triangle_48 rfl (lv_at hl 2 rfl) ?_
              refine lv_iconst (pc := 49) (v := (1 : Int32)) hx hb d_R_triangle_49 (by decide) ?_
              refine lv_isub (pc := 50) hx hb d_R_triangle_50 ?_
              refine lv_iconst (pc := 51) (v := (4 : Int32)) hx hb d_R_triangle_51 (by decide) ?_
              refine lv_idiv (pc := 52) hx hb d_R_triangle_52 (by decide) ?_
              refine lv_iload_n (pc := 53) hx hb d_R_triangle_53 rfl (lv_at hl 2 rfl) ?_
              refine lv_iconst (pc := 54) (v := (1 : Int32)) hx hb d_R_triangle_54 (by decide) ?_
              refine lv_isub (pc := 55) hx hb d_R_triangle_55 ?_
              refine lv_iconst (pc := 56) (v := (4 : Int32)) hx hb d_R_triangle_56 (by decide) ?_
              refine lv_irem (pc := 57) hx hb d_R_triangle_57 (by decide) ?_
              obtain ⟨w6, hw6, hE⟩ := xs_b hE
              refine xs_callVr (pc := 58) (as := [.int (x0), .int (((x1 - (1 : Int32)) / (4 : Int32))), .int (((x1 - (1 : Int32)) - (x1 - (1 : Int32)) / (4 : Int32) * (4 : Int32)))]) X (ok_R_placeOf l D ad cs hJ hw6) km_R_94 G (xs_wR ad cs _) rfl ⟨by decide, by decide⟩ ⟨Nat.zero_le _, Nat.zero_le _⟩ rfl hl.1 rfl (Nat.le_of_ble_eq_true rfl) d_R_triangle_58 (fun H locs G => ?_)
              cases hE
              exact xs_lret (pc := 61) hx hb hr hlk G d_R_triangle_61
          · exact absurd hc (by decide)
        · have hE := xs_f hE hc
          refine lv_iconst (pc := 25) (v := (1 : Int32)) hx hb d_R_triangle_25 (by decide) ?_
          refine lv_goto (pc := 26) (tgt := 30) hx hb d_R_triangle_26 (by decide) ?_
          refine pf_R_59 (pc := 30) X G d_R_triangle_30 (fun H locs G => ?_)
          obtain ⟨μ7, hμ7, hE⟩ := xs_b hE
          have G := xs_mv G hμ7
          have hfμ7 := xs_fi hμ7
          clear hμ7
          refine lv_aload_n (pc := 33) hx hb d_R_triangle_33 rfl (lv_at hl 0 rfl) ?_
          refine gf_R_59 (pc := 34) X G d_R_triangle_34 ?_
          refine xs_tq hfμ7 ?_
          refine lv_if_le (pc := 37) (tgt := 42) hx hb d_R_triangle_37 (by decide) (fun hc => ?_) (fun hc => ?_)
          · exact absurd hc (by decide)
          · refine lv_lconst (pc := 40) (v := (0 : Int64)) hx hb d_R_triangle_40 (by decide) ?_
            cases hE
            exact xs_lret (pc := 41) hx hb hr hlk G d_R_triangle_41
