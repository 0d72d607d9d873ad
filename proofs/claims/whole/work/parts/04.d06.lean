theorem dX8_ways_262 : decode cX8_ways 262 = .ok (.getfield 35, 3) := by decide +kernel
theorem dX8_ways_265 : decode cX8_ways 265 = .ok (.bipush 9, 2) := by decide +kernel
theorem dX8_ways_267 : decode cX8_ways 267 = .ok (.iload 4, 2) := by decide +kernel
theorem dX8_ways_269 : decode cX8_ways 269 = .ok (.imul, 1) := by decide +kernel
theorem dX8_ways_270 : decode cX8_ways 270 = .ok (.iload 5, 2) := by decide +kernel
theorem dX8_ways_272 : decode cX8_ways 272 = .ok (.iadd, 1) := by decide +kernel
theorem dX8_ways_273 : decode cX8_ways 273 = .ok (.iaload, 1) := by decide +kernel
theorem dX8_ways_274 : decode cX8_ways 274 = .ok (.bipush 100, 2) := by decide +kernel
theorem dX8_ways_276 : decode cX8_ways 276 = .ok (.idiv, 1) := by decide +kernel
theorem dX8_ways_277 : decode cX8_ways 277 = .ok (.iadd, 1) := by decide +kernel
theorem dX8_ways_278 : decode cX8_ways 278 = .ok (.iastore, 1) := by decide +kernel
theorem dX8_ways_279 : decode cX8_ways 279 = .ok (.aload_n 0, 1) := by decide +kernel
theorem dX8_ways_280 : decode cX8_ways 280 = .ok (.getfield 50, 3) := by decide +kernel
theorem dX8_ways_283 : decode cX8_ways 283 = .ok (.iload 5, 2) := by decide +kernel
theorem dX8_ways_285 : decode cX8_ways 285 = .ok (.iconst 1, 1) := by decide +kernel
theorem dX8_ways_286 : decode cX8_ways 286 = .ok (.bastore, 1) := by decide +kernel
theorem dX8_ways_287 : decode cX8_ways 287 = .ok (.goto (-185), 3) := by decide +kernel
theorem dX8_ways_290 : decode cX8_ways 290 = .ok (.iload_n 2, 1) := by decide +kernel
theorem dX8_ways_291 : decode cX8_ways 291 = .ok (.ireturn, 1) := by decide +kernel
theorem dX8_middle_0 : decode cX8_middle 0 = .ok (.aload_n 0, 1) := by decide +kernel
theorem dX8_middle_1 : decode cX8_middle 1 = .ok (.aload_n 0, 1) := by decide +kernel
theorem dX8_middle_2 : decode cX8_middle 2 = .ok (.getfield 16, 3) := by decide +kernel
theorem dX8_middle_5 : decode cX8_middle 5 = .ok (.sipush (-999), 3) := by decide +kernel
theorem dX8_middle_8 : decode cX8_middle 8 = .ok (.invokevirtual 81, 3) := by decide +kernel
theorem dX8_middle_11 : decode cX8_middle 11 = .ok (.sipush (-999), 3) := by decide +kernel
theorem dX8_middle_14 : decode cX8_middle 14 = .ok (.istore_n 1, 1) := by decide +kernel
theorem dX8_middle_15 : decode cX8_middle 15 = .ok (.ldc 73, 2) := by decide +kernel
theorem dX8_middle_17 : decode cX8_middle 17 = .ok (.istore_n 2, 1) := by decide +kernel
theorem dX8_middle_18 : decode cX8_middle 18 = .ok (.iconst 0, 1) := by decide +kernel
theorem dX8_middle_19 : decode cX8_middle 19 = .ok (.istore_n 3, 1) := by decide +kernel
theorem dX8_middle_20 : decode cX8_middle 20 = .ok (.iload_n 3, 1) := by decide +kernel
theorem dX8_middle_21 : decode cX8_middle 21 = .ok (.aload_n 0, 1) := by decide +kernel
theorem dX8_middle_22 : decode cX8_middle 22 = .ok (.getfield 16, 3) := by decide +kernel
theorem dX8_middle_25 : decode cX8_middle 25 = .ok (.iconst 0, 1) := by decide +kernel
theorem dX8_middle_26 : decode cX8_middle 26 = .ok (.iaload, 1) := by decide +kernel
theorem dX8_middle_27 : decode cX8_middle 27 = .ok (.if_icmp .ge 106, 3) := by decide +kernel
theorem dX8_middle_30 : decode cX8_middle 30 = .ok (.aload_n 0, 1) := by decide +kernel
theorem dX8_middle_31 : decode cX8_middle 31 = .ok (.aload_n 0, 1) := by decide +kernel
theorem dX8_middle_32 : decode cX8_middle 32 = .ok (.getfield 16, 3) := by decide +kernel
theorem dX8_middle_35 : decode cX8_middle 35 = .ok (.iload_n 3, 1) := by decide +kernel
theorem dX8_middle_36 : decode cX8_middle 36 = .ok (.invokevirtual 74, 3) := by decide +kernel
theorem dX8_middle_39 : decode cX8_middle 39 = .ok (.iconst 0, 1) := by decide +kernel
theorem dX8_middle_40 : decode cX8_middle 40 = .ok (.istore 4, 2) := by decide +kernel
theorem dX8_middle_42 : decode cX8_middle 42 = .ok (.iconst 0, 1) := by decide +kernel
theorem dX8_middle_43 : decode cX8_middle 43 = .ok (.istore 5, 2) := by decide +kernel
theorem dX8_middle_45 : decode cX8_middle 45 = .ok (.iload 5, 2) := by decide +kernel
theorem dX8_middle_47 : decode cX8_middle 47 = .ok (.aload_n 0, 1) := by decide +kernel
theorem dX8_middle_48 : decode cX8_middle 48 = .ok (.getfield 16, 3) := by decide +kernel
theorem dX8_middle_51 : decode cX8_middle 51 = .ok (.iconst 0, 1) := by decide +kernel
theorem dX8_middle_52 : decode cX8_middle 52 = .ok (.iaload, 1) := by decide +kernel
theorem dX8_middle_53 : decode cX8_middle 53 = .ok (.if_icmp .ge 49, 3) := by decide +kernel
theorem dX8_middle_56 : decode cX8_middle 56 = .ok (.aload_n 0, 1) := by decide +kernel
theorem dX8_middle_57 : decode cX8_middle 57 = .ok (.getfield 38, 3) := by decide +kernel
theorem dX8_middle_60 : decode cX8_middle 60 = .ok (.iload 5, 2) := by decide +kernel
theorem dX8_middle_62 : decode cX8_middle 62 = .ok (.iaload, 1) := by decide +kernel
theorem dX8_middle_63 : decode cX8_middle 63 = .ok (.invokestatic 77, 3) := by decide +kernel
theorem dX8_middle_66 : decode cX8_middle 66 = .ok (.istore 6, 2) := by decide +kernel
theorem dX8_middle_68 : decode cX8_middle 68 = .ok (.iload 6, 2) := by decide +kernel
theorem dX8_middle_70 : decode cX8_middle 70 = .ok (.sipush (-999), 3) := by decide +kernel
theorem dX8_middle_73 : decode cX8_middle 73 = .ok (.if_icmp .ne 7, 3) := by decide +kernel
theorem dX8_middle_76 : decode cX8_middle 76 = .ok (.sipush (-999), 3) := by decide +kernel
theorem dX8_middle_79 : decode cX8_middle 79 = .ok (.ireturn, 1) := by decide +kernel
theorem dX8_middle_80 : decode cX8_middle 80 = .ok (.iload 6, 2) := by decide +kernel
theorem dX8_middle_82 : decode cX8_middle 82 = .ok (.iload 4, 2) := by decide +kernel
theorem dX8_middle_84 : decode cX8_middle 84 = .ok (.if_icmp .le 8, 3) := by decide +kernel
theorem dX8_middle_87 : decode cX8_middle 87 = .ok (.iload 6, 2) := by decide +kernel
theorem dX8_middle_89 : decode cX8_middle 89 = .ok (.goto 5, 3) := by decide +kernel
theorem dX8_middle_92 : decode cX8_middle 92 = .ok (.iload 4, 2) := by decide +kernel
theorem dX8_middle_94 : decode cX8_middle 94 = .ok (.istore 4, 2) := by decide +kernel
theorem dX8_middle_96 : decode cX8_middle 96 = .ok (.iinc 5 1, 3) := by decide +kernel
theorem dX8_middle_99 : decode cX8_middle 99 = .ok (.goto (-54), 3) := by decide +kernel
theorem dX8_middle_102 : decode cX8_middle 102 = .ok (.iload 4, 2) := by decide +kernel
theorem dX8_middle_104 : decode cX8_middle 104 = .ok (.iload_n 2, 1) := by decide +kernel
theorem dX8_middle_105 : decode cX8_middle 105 = .ok (.if_icmp .ge 7, 3) := by decide +kernel
theorem dX8_middle_108 : decode cX8_middle 108 = .ok (.iload_n 3, 1) := by decide +kernel
theorem dX8_middle_109 : decode cX8_middle 109 = .ok (.goto 4, 3) := by decide +kernel
theorem dX8_middle_112 : decode cX8_middle 112 = .ok (.iload_n 1, 1) := by decide +kernel
theorem dX8_middle_113 : decode cX8_middle 113 = .ok (.istore_n 1, 1) := by decide +kernel
theorem dX8_middle_114 : decode cX8_middle 114 = .ok (.iload 4, 2) := by decide +kernel
theorem dX8_middle_116 : decode cX8_middle 116 = .ok (.iload_n 2, 1) := by decide +kernel
theorem dX8_middle_117 : decode cX8_middle 117 = .ok (.if_icmp .ge 8, 3) := by decide +kernel
theorem dX8_middle_120 : decode cX8_middle 120 = .ok (.iload 4, 2) := by decide +kernel
theorem dX8_middle_122 : decode cX8_middle 122 = .ok (.goto 4, 3) := by decide +kernel
theorem dX8_middle_125 : decode cX8_middle 125 = .ok (.iload_n 2, 1) := by decide +kernel
theorem dX8_middle_126 : decode cX8_middle 126 = .ok (.istore_n 2, 1) := by decide +kernel
theorem dX8_middle_127 : decode cX8_middle 127 = .ok (.iinc 3 1, 3) := by decide +kernel
theorem dX8_middle_130 : decode cX8_middle 130 = .ok (.goto (-110), 3) := by decide +kernel
theorem dX8_middle_133 : decode cX8_middle 133 = .ok (.iload_n 1, 1) := by decide +kernel
theorem dX8_middle_134 : decode cX8_middle 134 = .ok (.ireturn, 1) := by decide +kernel
theorem dX8_tryGroup_0 : decode cX8_tryGroup 0 = .ok (.bipush 10, 2) := by decide +kernel
theorem dX8_tryGroup_2 : decode cX8_tryGroup 2 = .ok (.iload_n 2, 1) := by decide +kernel
theorem dX8_tryGroup_3 : decode cX8_tryGroup 3 = .ok (.imul, 1) := by decide +kernel
theorem dX8_tryGroup_4 : decode cX8_tryGroup 4 = .ok (.iload_n 3, 1) := by decide +kernel
theorem dX8_tryGroup_5 : decode cX8_tryGroup 5 = .ok (.iadd, 1) := by decide +kernel
theorem dX8_tryGroup_6 : decode cX8_tryGroup 6 = .ok (.istore 5, 2) := by decide +kernel
theorem dX8_tryGroup_8 : decode cX8_tryGroup 8 = .ok (.bipush 100, 2) := by decide +kernel
theorem dX8_tryGroup_10 : decode cX8_tryGroup 10 = .ok (.iload_n 3, 1) := by decide +kernel
theorem dX8_tryGroup_11 : decode cX8_tryGroup 11 = .ok (.imul, 1) := by decide +kernel
theorem dX8_tryGroup_12 : decode cX8_tryGroup 12 = .ok (.iload 4, 2) := by decide +kernel
theorem dX8_tryGroup_14 : decode cX8_tryGroup 14 = .ok (.iadd, 1) := by decide +kernel
theorem dX8_tryGroup_15 : decode cX8_tryGroup 15 = .ok (.istore 6, 2) := by decide +kernel
theorem dX8_tryGroup_17 : decode cX8_tryGroup 17 = .ok (.iload_n 1, 1) := by decide +kernel
theorem dX8_tryGroup_18 : decode cX8_tryGroup 18 = .ok (.tableswitch 459 1 9 #[50, 84, 114, 147, 190, 240, 278, 339, 385], 50) := by decide +kernel
theorem dX8_tryGroup_68 : decode cX8_tryGroup 68 = .ok (.aload_n 0, 1) := by decide +kernel
theorem dX8_tryGroup_69 : decode cX8_tryGroup 69 = .ok (.getfield 19, 3) := by decide +kernel
theorem dX8_tryGroup_72 : decode cX8_tryGroup 72 = .ok (.iload_n 2, 1) := by decide +kernel
theorem dX8_tryGroup_73 : decode cX8_tryGroup 73 = .ok (.iload_n 3, 1) := by decide +kernel
theorem dX8_tryGroup_74 : decode cX8_tryGroup 74 = .ok (.iload 4, 2) := by decide +kernel
theorem dX8_tryGroup_76 : decode cX8_tryGroup 76 = .ok (.invokestatic 195, 3) := by decide +kernel
theorem dX8_tryGroup_79 : decode cX8_tryGroup 79 = .ok (.ifCond .ne 21, 3) := by decide +kernel
theorem dX8_tryGroup_82 : decode cX8_tryGroup 82 = .ok (.aload_n 0, 1) := by decide +kernel
theorem dX8_tryGroup_83 : decode cX8_tryGroup 83 = .ok (.getfield 19, 3) := by decide +kernel
theorem dX8_tryGroup_86 : decode cX8_tryGroup 86 = .ok (.iload_n 2, 1) := by decide +kernel
theorem dX8_tryGroup_87 : decode cX8_tryGroup 87 = .ok (.iload_n 3, 1) := by decide +kernel
theorem dX8_tryGroup_88 : decode cX8_tryGroup 88 = .ok (.iload 4, 2) := by decide +kernel
theorem dX8_tryGroup_90 : decode cX8_tryGroup 90 = .ok (.invokestatic 122, 3) := by decide +kernel
theorem dX8_tryGroup_93 : decode cX8_tryGroup 93 = .ok (.ifCond .lt 7, 3) := by decide +kernel
theorem dX8_tryGroup_96 : decode cX8_tryGroup 96 = .ok (.iconst 1, 1) := by decide +kernel
theorem dX8_tryGroup_97 : decode cX8_tryGroup 97 = .ok (.goto 4, 3) := by decide +kernel
theorem dX8_tryGroup_100 : decode cX8_tryGroup 100 = .ok (.iconst 0, 1) := by decide +kernel
theorem dX8_tryGroup_101 : decode cX8_tryGroup 101 = .ok (.ireturn, 1) := by decide +kernel
theorem dX8_tryGroup_102 : decode cX8_tryGroup 102 = .ok (.iload 4, 2) := by decide +kernel
theorem dX8_tryGroup_104 : decode cX8_tryGroup 104 = .ok (.ifCond .gt 15, 3) := by decide +kernel
theorem dX8_tryGroup_107 : decode cX8_tryGroup 107 = .ok (.aload_n 0, 1) := by decide +kernel
theorem dX8_tryGroup_108 : decode cX8_tryGroup 108 = .ok (.getfield 19, 3) := by decide +kernel
theorem dX8_tryGroup_111 : decode cX8_tryGroup 111 = .ok (.iload 5, 2) := by decide +kernel
theorem dX8_tryGroup_113 : decode cX8_tryGroup 113 = .ok (.invokestatic 173, 3) := by decide +kernel
theorem dX8_tryGroup_116 : decode cX8_tryGroup 116 = .ok (.ifCond .ne 5, 3) := by decide +kernel
theorem dX8_tryGroup_119 : decode cX8_tryGroup 119 = .ok (.iconst 0, 1) := by decide +kernel
theorem dX8_tryGroup_120 : decode cX8_tryGroup 120 = .ok (.ireturn, 1) := by decide +kernel
theorem dX8_tryGroup_121 : decode cX8_tryGroup 121 = .ok (.aload_n 0, 1) := by decide +kernel
theorem dX8_tryGroup_122 : decode cX8_tryGroup 122 = .ok (.getfield 19, 3) := by decide +kernel
theorem dX8_tryGroup_125 : decode cX8_tryGroup 125 = .ok (.iload 5, 2) := by decide +kernel
theorem dX8_tryGroup_127 : decode cX8_tryGroup 127 = .ok (.invokestatic 198, 3) := by decide +kernel
theorem dX8_tryGroup_130 : decode cX8_tryGroup 130 = .ok (.iconst 1, 1) := by decide +kernel
theorem dX8_tryGroup_131 : decode cX8_tryGroup 131 = .ok (.ireturn, 1) := by decide +kernel
theorem dX8_tryGroup_132 : decode cX8_tryGroup 132 = .ok (.aload_n 0, 1) := by decide +kernel
theorem dX8_tryGroup_133 : decode cX8_tryGroup 133 = .ok (.getfield 19, 3) := by decide +kernel
theorem dX8_tryGroup_136 : decode cX8_tryGroup 136 = .ok (.iload 5, 2) := by decide +kernel
theorem dX8_tryGroup_138 : decode cX8_tryGroup 138 = .ok (.invokestatic 173, 3) := by decide +kernel
theorem dX8_tryGroup_141 : decode cX8_tryGroup 141 = .ok (.ifCond .eq 8, 3) := by decide +kernel
theorem dX8_tryGroup_144 : decode cX8_tryGroup 144 = .ok (.iload 4, 2) := by decide +kernel
theorem dX8_tryGroup_146 : decode cX8_tryGroup 146 = .ok (.ifCond .ne 5, 3) := by decide +kernel
theorem dX8_tryGroup_149 : decode cX8_tryGroup 149 = .ok (.iconst 0, 1) := by decide +kernel
theorem dX8_tryGroup_150 : decode cX8_tryGroup 150 = .ok (.ireturn, 1) := by decide +kernel
theorem dX8_tryGroup_151 : decode cX8_tryGroup 151 = .ok (.aload_n 0, 1) := by decide +kernel
theorem dX8_tryGroup_152 : decode cX8_tryGroup 152 = .ok (.getfield 19, 3) := by decide +kernel
theorem dX8_tryGroup_155 : decode cX8_tryGroup 155 = .ok (.bipush 44, 2) := by decide +kernel
theorem dX8_tryGroup_157 : decode cX8_tryGroup 157 = .ok (.iload 5, 2) := by decide +kernel
theorem dX8_tryGroup_159 : decode cX8_tryGroup 159 = .ok (.iadd, 1) := by decide +kernel
theorem dX8_tryGroup_160 : decode cX8_tryGroup 160 = .ok (.iload 4, 2) := by decide +kernel
theorem dX8_tryGroup_162 : decode cX8_tryGroup 162 = .ok (.iastore, 1) := by decide +kernel
theorem dX8_tryGroup_163 : decode cX8_tryGroup 163 = .ok (.iconst 1, 1) := by decide +kernel
theorem dX8_tryGroup_164 : decode cX8_tryGroup 164 = .ok (.ireturn, 1) := by decide +kernel
theorem dX8_tryGroup_165 : decode cX8_tryGroup 165 = .ok (.aload_n 0, 1) := by decide +kernel
theorem dX8_tryGroup_166 : decode cX8_tryGroup 166 = .ok (.getfield 19, 3) := by decide +kernel
theorem dX8_tryGroup_169 : decode cX8_tryGroup 169 = .ok (.iload 5, 2) := by decide +kernel
theorem dX8_tryGroup_171 : decode cX8_tryGroup 171 = .ok (.invokestatic 173, 3) := by decide +kernel
theorem dX8_tryGroup_174 : decode cX8_tryGroup 174 = .ok (.ifCond .eq 15, 3) := by decide +kernel
theorem dX8_tryGroup_177 : decode cX8_tryGroup 177 = .ok (.iload 4, 2) := by decide +kernel
theorem dX8_tryGroup_179 : decode cX8_tryGroup 179 = .ok (.ifCond .eq 12, 3) := by decide +kernel
theorem dX8_tryGroup_182 : decode cX8_tryGroup 182 = .ok (.iload 4, 2) := by decide +kernel
theorem dX8_tryGroup_184 : decode cX8_tryGroup 184 = .ok (.bipush 10, 2) := by decide +kernel
theorem dX8_tryGroup_186 : decode cX8_tryGroup 186 = .ok (.if_icmp .eq 5, 3) := by decide +kernel
theorem dX8_tryGroup_189 : decode cX8_tryGroup 189 = .ok (.iconst 0, 1) := by decide +kernel
theorem dX8_tryGroup_190 : decode cX8_tryGroup 190 = .ok (.ireturn, 1) := by decide +kernel
theorem dX8_tryGroup_191 : decode cX8_tryGroup 191 = .ok (.aload_n 0, 1) := by decide +kernel
theorem dX8_tryGroup_192 : decode cX8_tryGroup 192 = .ok (.getfield 19, 3) := by decide +kernel
theorem dX8_tryGroup_195 : decode cX8_tryGroup 195 = .ok (.bipush 64, 2) := by decide +kernel
theorem dX8_tryGroup_197 : decode cX8_tryGroup 197 = .ok (.iload 5, 2) := by decide +kernel
theorem dX8_tryGroup_199 : decode cX8_tryGroup 199 = .ok (.iadd, 1) := by decide +kernel
theorem dX8_tryGroup_200 : decode cX8_tryGroup 200 = .ok (.iload 4, 2) := by decide +kernel
theorem dX8_tryGroup_202 : decode cX8_tryGroup 202 = .ok (.bipush 10, 2) := by decide +kernel
theorem dX8_tryGroup_204 : decode cX8_tryGroup 204 = .ok (.idiv, 1) := by decide +kernel
theorem dX8_tryGroup_205 : decode cX8_tryGroup 205 = .ok (.iastore, 1) := by decide +kernel
theorem dX8_tryGroup_206 : decode cX8_tryGroup 206 = .ok (.iconst 1, 1) := by decide +kernel
theorem dX8_tryGroup_207 : decode cX8_tryGroup 207 = .ok (.ireturn, 1) := by decide +kernel
theorem dX8_tryGroup_208 : decode cX8_tryGroup 208 = .ok (.iload 4, 2) := by decide +kernel
theorem dX8_tryGroup_210 : decode cX8_tryGroup 210 = .ok (.ifCond .gt 30, 3) := by decide +kernel
theorem dX8_tryGroup_213 : decode cX8_tryGroup 213 = .ok (.iload_n 2, 1) := by decide +kernel
theorem dX8_tryGroup_214 : decode cX8_tryGroup 214 = .ok (.iload_n 3, 1) := by decide +kernel
theorem dX8_tryGroup_215 : decode cX8_tryGroup 215 = .ok (.if_icmp .eq 25, 3) := by decide +kernel
theorem dX8_tryGroup_218 : decode cX8_tryGroup 218 = .ok (.aload_n 0, 1) := by decide +kernel
theorem dX8_tryGroup_219 : decode cX8_tryGroup 219 = .ok (.getfield 19, 3) := by decide +kernel
theorem dX8_tryGroup_222 : decode cX8_tryGroup 222 = .ok (.iload_n 2, 1) := by decide +kernel
theorem dX8_tryGroup_223 : decode cX8_tryGroup 223 = .ok (.invokestatic 182, 3) := by decide +kernel
theorem dX8_tryGroup_226 : decode cX8_tryGroup 226 = .ok (.ifCond .eq 14, 3) := by decide +kernel
theorem dX8_tryGroup_229 : decode cX8_tryGroup 229 = .ok (.aload_n 0, 1) := by decide +kernel
theorem dX8_tryGroup_230 : decode cX8_tryGroup 230 = .ok (.getfield 19, 3) := by decide +kernel
theorem dX8_tryGroup_233 : decode cX8_tryGroup 233 = .ok (.iload_n 3, 1) := by decide +kernel
theorem dX8_tryGroup_234 : decode cX8_tryGroup 234 = .ok (.invokestatic 182, 3) := by decide +kernel
theorem dX8_tryGroup_237 : decode cX8_tryGroup 237 = .ok (.ifCond .ne 5, 3) := by decide +kernel
theorem dX8_tryGroup_240 : decode cX8_tryGroup 240 = .ok (.iconst 0, 1) := by decide +kernel
theorem dX8_tryGroup_241 : decode cX8_tryGroup 241 = .ok (.ireturn, 1) := by decide +kernel
theorem dX8_tryGroup_242 : decode cX8_tryGroup 242 = .ok (.aload_n 0, 1) := by decide +kernel
theorem dX8_tryGroup_243 : decode cX8_tryGroup 243 = .ok (.getfield 19, 3) := by decide +kernel
theorem dX8_tryGroup_246 : decode cX8_tryGroup 246 = .ok (.iconst 2, 1) := by decide +kernel
theorem dX8_tryGroup_247 : decode cX8_tryGroup 247 = .ok (.iload_n 2, 1) := by decide +kernel
theorem dX8_tryGroup_248 : decode cX8_tryGroup 248 = .ok (.iastore, 1) := by decide +kernel
theorem dX8_tryGroup_249 : decode cX8_tryGroup 249 = .ok (.aload_n 0, 1) := by decide +kernel
theorem dX8_tryGroup_250 : decode cX8_tryGroup 250 = .ok (.getfield 19, 3) := by decide +kernel
theorem dX8_tryGroup_253 : decode cX8_tryGroup 253 = .ok (.iconst 3, 1) := by decide +kernel
theorem dX8_tryGroup_254 : decode cX8_tryGroup 254 = .ok (.iload_n 3, 1) := by decide +kernel
theorem dX8_tryGroup_255 : decode cX8_tryGroup 255 = .ok (.iastore, 1) := by decide +kernel
theorem dX8_tryGroup_256 : decode cX8_tryGroup 256 = .ok (.iconst 1, 1) := by decide +kernel
theorem dX8_tryGroup_257 : decode cX8_tryGroup 257 = .ok (.ireturn, 1) := by decide +kernel
theorem dX8_tryGroup_258 : decode cX8_tryGroup 258 = .ok (.aload_n 0, 1) := by decide +kernel
theorem dX8_tryGroup_259 : decode cX8_tryGroup 259 = .ok (.aload_n 0, 1) := by decide +kernel
theorem dX8_tryGroup_260 : decode cX8_tryGroup 260 = .ok (.getfield 19, 3) := by decide +kernel
theorem dX8_tryGroup_263 : decode cX8_tryGroup 263 = .ok (.sipush (-999), 3) := by decide +kernel
theorem dX8_tryGroup_266 : decode cX8_tryGroup 266 = .ok (.invokevirtual 88, 3) := by decide +kernel
theorem dX8_tryGroup_269 : decode cX8_tryGroup 269 = .ok (.istore 7, 2) := by decide +kernel
theorem dX8_tryGroup_271 : decode cX8_tryGroup 271 = .ok (.iload_n 2, 1) := by decide +kernel
theorem dX8_tryGroup_272 : decode cX8_tryGroup 272 = .ok (.ifCond .ne 22, 3) := by decide +kernel
theorem dX8_tryGroup_275 : decode cX8_tryGroup 275 = .ok (.iload 7, 2) := by decide +kernel
theorem dX8_tryGroup_277 : decode cX8_tryGroup 277 = .ok (.sipush (-999), 3) := by decide +kernel
theorem dX8_tryGroup_280 : decode cX8_tryGroup 280 = .ok (.if_icmp .eq 14, 3) := by decide +kernel
theorem dX8_tryGroup_283 : decode cX8_tryGroup 283 = .ok (.iload 7, 2) := by decide +kernel
theorem dX8_tryGroup_285 : decode cX8_tryGroup 285 = .ok (.iload 6, 2) := by decide +kernel
theorem dX8_tryGroup_287 : decode cX8_tryGroup 287 = .ok (.if_icmp .gt 7, 3) := by decide +kernel
theorem dX8_tryGroup_290 : decode cX8_tryGroup 290 = .ok (.iconst 1, 1) := by decide +kernel
theorem dX8_tryGroup_291 : decode cX8_tryGroup 291 = .ok (.goto 4, 3) := by decide +kernel
theorem dX8_tryGroup_294 : decode cX8_tryGroup 294 = .ok (.iconst 0, 1) := by decide +kernel
theorem dX8_tryGroup_295 : decode cX8_tryGroup 295 = .ok (.ireturn, 1) := by decide +kernel
theorem dX8_tryGroup_296 : decode cX8_tryGroup 296 = .ok (.aload_n 0, 1) := by decide +kernel
theorem dX8_tryGroup_297 : decode cX8_tryGroup 297 = .ok (.aload_n 0, 1) := by decide +kernel
theorem dX8_tryGroup_298 : decode cX8_tryGroup 298 = .ok (.getfield 19, 3) := by decide +kernel
theorem dX8_tryGroup_301 : decode cX8_tryGroup 301 = .ok (.sipush (-999), 3) := by decide +kernel
theorem dX8_tryGroup_304 : decode cX8_tryGroup 304 = .ok (.invokevirtual 170, 3) := by decide +kernel
theorem dX8_tryGroup_307 : decode cX8_tryGroup 307 = .ok (.pop, 1) := by decide +kernel
theorem dX8_tryGroup_308 : decode cX8_tryGroup 308 = .ok (.iload 4, 2) := by decide +kernel
theorem dX8_tryGroup_310 : decode cX8_tryGroup 310 = .ok (.ifCond .ne 45, 3) := by decide +kernel
theorem dX8_tryGroup_313 : decode cX8_tryGroup 313 = .ok (.aload_n 0, 1) := by decide +kernel
theorem dX8_tryGroup_314 : decode cX8_tryGroup 314 = .ok (.getfield 19, 3) := by decide +kernel
theorem dX8_tryGroup_317 : decode cX8_tryGroup 317 = .ok (.iload 5, 2) := by decide +kernel
theorem dX8_tryGroup_319 : decode cX8_tryGroup 319 = .ok (.invokestatic 173, 3) := by decide +kernel
theorem dX8_tryGroup_322 : decode cX8_tryGroup 322 = .ok (.ifCond .eq 33, 3) := by decide +kernel
theorem dX8_tryGroup_325 : decode cX8_tryGroup 325 = .ok (.aload_n 0, 1) := by decide +kernel
theorem dX8_tryGroup_326 : decode cX8_tryGroup 326 = .ok (.getfield 19, 3) := by decide +kernel
theorem dX8_tryGroup_329 : decode cX8_tryGroup 329 = .ok (.bipush 64, 2) := by decide +kernel
theorem dX8_tryGroup_331 : decode cX8_tryGroup 331 = .ok (.iload 5, 2) := by decide +kernel
theorem dX8_tryGroup_333 : decode cX8_tryGroup 333 = .ok (.iadd, 1) := by decide +kernel
theorem dX8_tryGroup_334 : decode cX8_tryGroup 334 = .ok (.iaload, 1) := by decide +kernel
theorem dX8_tryGroup_335 : decode cX8_tryGroup 335 = .ok (.ifCond .ne 20, 3) := by decide +kernel
theorem dX8_tryGroup_338 : decode cX8_tryGroup 338 = .ok (.aload_n 0, 1) := by decide +kernel
theorem dX8_tryGroup_339 : decode cX8_tryGroup 339 = .ok (.aload_n 0, 1) := by decide +kernel
theorem dX8_tryGroup_340 : decode cX8_tryGroup 340 = .ok (.getfield 19, 3) := by decide +kernel
theorem dX8_tryGroup_343 : decode cX8_tryGroup 343 = .ok (.iload 5, 2) := by decide +kernel
theorem dX8_tryGroup_345 : decode cX8_tryGroup 345 = .ok (.invokevirtual 179, 3) := by decide +kernel
theorem dX8_tryGroup_348 : decode cX8_tryGroup 348 = .ok (.ifCond .eq 7, 3) := by decide +kernel
theorem dX8_tryGroup_351 : decode cX8_tryGroup 351 = .ok (.iconst 1, 1) := by decide +kernel
theorem dX8_tryGroup_352 : decode cX8_tryGroup 352 = .ok (.goto 4, 3) := by decide +kernel
theorem dX8_tryGroup_355 : decode cX8_tryGroup 355 = .ok (.iconst 0, 1) := by decide +kernel
theorem dX8_tryGroup_356 : decode cX8_tryGroup 356 = .ok (.ireturn, 1) := by decide +kernel
theorem dX8_tryGroup_357 : decode cX8_tryGroup 357 = .ok (.iload 5, 2) := by decide +kernel
theorem dX8_tryGroup_359 : decode cX8_tryGroup 359 = .ok (.ifCond .ne 42, 3) := by decide +kernel
theorem dX8_tryGroup_362 : decode cX8_tryGroup 362 = .ok (.iload 4, 2) := by decide +kernel
theorem dX8_tryGroup_364 : decode cX8_tryGroup 364 = .ok (.bipush 10, 2) := by decide +kernel
theorem dX8_tryGroup_366 : decode cX8_tryGroup 366 = .ok (.if_icmp .ge 35, 3) := by decide +kernel
theorem dX8_tryGroup_369 : decode cX8_tryGroup 369 = .ok (.aload_n 0, 1) := by decide +kernel
theorem dX8_tryGroup_370 : decode cX8_tryGroup 370 = .ok (.aload_n 0, 1) := by decide +kernel
theorem dX8_tryGroup_371 : decode cX8_tryGroup 371 = .ok (.getfield 19, 3) := by decide +kernel
theorem dX8_tryGroup_374 : decode cX8_tryGroup 374 = .ok (.sipush (-999), 3) := by decide +kernel
theorem dX8_tryGroup_377 : decode cX8_tryGroup 377 = .ok (.invokevirtual 170, 3) := by decide +kernel
theorem dX8_tryGroup_380 : decode cX8_tryGroup 380 = .ok (.sipush (-999), 3) := by decide +kernel
theorem dX8_tryGroup_383 : decode cX8_tryGroup 383 = .ok (.if_icmp .eq 18, 3) := by decide +kernel
theorem dX8_tryGroup_386 : decode cX8_tryGroup 386 = .ok (.aload_n 0, 1) := by decide +kernel
theorem dX8_tryGroup_387 : decode cX8_tryGroup 387 = .ok (.getfield 92, 3) := by decide +kernel
theorem dX8_tryGroup_390 : decode cX8_tryGroup 390 = .ok (.iconst 1, 1) := by decide +kernel
theorem dX8_tryGroup_391 : decode cX8_tryGroup 391 = .ok (.isub, 1) := by decide +kernel
theorem dX8_tryGroup_392 : decode cX8_tryGroup 392 = .ok (.iload 4, 2) := by decide +kernel
theorem dX8_tryGroup_394 : decode cX8_tryGroup 394 = .ok (.if_icmp .gt 7, 3) := by decide +kernel
theorem dX8_tryGroup_397 : decode cX8_tryGroup 397 = .ok (.iconst 1, 1) := by decide +kernel
theorem dX8_tryGroup_398 : decode cX8_tryGroup 398 = .ok (.goto 4, 3) := by decide +kernel
theorem dX8_tryGroup_401 : decode cX8_tryGroup 401 = .ok (.iconst 0, 1) := by decide +kernel
theorem dX8_tryGroup_402 : decode cX8_tryGroup 402 = .ok (.ireturn, 1) := by decide +kernel
theorem dX8_tryGroup_403 : decode cX8_tryGroup 403 = .ok (.iload_n 3, 1) := by decide +kernel
theorem dX8_tryGroup_404 : decode cX8_tryGroup 404 = .ok (.ifCond .gt 14, 3) := by decide +kernel
theorem dX8_tryGroup_407 : decode cX8_tryGroup 407 = .ok (.aload_n 0, 1) := by decide +kernel
theorem dX8_tryGroup_408 : decode cX8_tryGroup 408 = .ok (.getfield 19, 3) := by decide +kernel
theorem dX8_tryGroup_411 : decode cX8_tryGroup 411 = .ok (.iload_n 2, 1) := by decide +kernel
theorem dX8_tryGroup_412 : decode cX8_tryGroup 412 = .ok (.invokestatic 182, 3) := by decide +kernel
theorem dX8_tryGroup_415 : decode cX8_tryGroup 415 = .ok (.ifCond .ne 5, 3) := by decide +kernel
theorem dX8_tryGroup_418 : decode cX8_tryGroup 418 = .ok (.iconst 0, 1) := by decide +kernel
theorem dX8_tryGroup_419 : decode cX8_tryGroup 419 = .ok (.ireturn, 1) := by decide +kernel
theorem dX8_tryGroup_420 : decode cX8_tryGroup 420 = .ok (.aload_n 0, 1) := by decide +kernel
theorem dX8_tryGroup_421 : decode cX8_tryGroup 421 = .ok (.aload_n 0, 1) := by decide +kernel
theorem dX8_tryGroup_422 : decode cX8_tryGroup 422 = .ok (.getfield 19, 3) := by decide +kernel
theorem dX8_tryGroup_425 : decode cX8_tryGroup 425 = .ok (.sipush (-999), 3) := by decide +kernel
theorem dX8_tryGroup_428 : decode cX8_tryGroup 428 = .ok (.invokevirtual 81, 3) := by decide +kernel
theorem dX8_tryGroup_431 : decode cX8_tryGroup 431 = .ok (.aload_n 0, 1) := by decide +kernel
theorem dX8_tryGroup_432 : decode cX8_tryGroup 432 = .ok (.aload_n 0, 1) := by decide +kernel
theorem dX8_tryGroup_433 : decode cX8_tryGroup 433 = .ok (.getfield 19, 3) := by decide +kernel
theorem dX8_tryGroup_436 : decode cX8_tryGroup 436 = .ok (.aload_n 0, 1) := by decide +kernel
theorem dX8_tryGroup_437 : decode cX8_tryGroup 437 = .ok (.getfield 19, 3) := by decide +kernel
theorem dX8_tryGroup_440 : decode cX8_tryGroup 440 = .ok (.iconst 2, 1) := by decide +kernel
theorem dX8_tryGroup_441 : decode cX8_tryGroup 441 = .ok (.iaload, 1) := by decide +kernel
theorem dX8_tryGroup_442 : decode cX8_tryGroup 442 = .ok (.invokevirtual 74, 3) := by decide +kernel
theorem dX8_tryGroup_445 : decode cX8_tryGroup 445 = .ok (.aload_n 0, 1) := by decide +kernel
theorem dX8_tryGroup_446 : decode cX8_tryGroup 446 = .ok (.getfield 38, 3) := by decide +kernel
theorem dX8_tryGroup_449 : decode cX8_tryGroup 449 = .ok (.iload_n 2, 1) := by decide +kernel
theorem dX8_tryGroup_450 : decode cX8_tryGroup 450 = .ok (.iaload, 1) := by decide +kernel
theorem dX8_tryGroup_451 : decode cX8_tryGroup 451 = .ok (.invokestatic 77, 3) := by decide +kernel
theorem dX8_tryGroup_454 : decode cX8_tryGroup 454 = .ok (.istore 7, 2) := by decide +kernel
theorem dX8_tryGroup_456 : decode cX8_tryGroup 456 = .ok (.iload 7, 2) := by decide +kernel
theorem dX8_tryGroup_458 : decode cX8_tryGroup 458 = .ok (.sipush (-999), 3) := by decide +kernel
theorem dX8_tryGroup_461 : decode cX8_tryGroup 461 = .ok (.if_icmp .eq 14, 3) := by decide +kernel
theorem dX8_tryGroup_464 : decode cX8_tryGroup 464 = .ok (.iload 7, 2) := by decide +kernel
theorem dX8_tryGroup_466 : decode cX8_tryGroup 466 = .ok (.iload 4, 2) := by decide +kernel
theorem dX8_tryGroup_468 : decode cX8_tryGroup 468 = .ok (.if_icmp .gt 7, 3) := by decide +kernel
theorem dX8_tryGroup_471 : decode cX8_tryGroup 471 = .ok (.iconst 1, 1) := by decide +kernel
theorem dX8_tryGroup_472 : decode cX8_tryGroup 472 = .ok (.goto 4, 3) := by decide +kernel
theorem dX8_tryGroup_475 : decode cX8_tryGroup 475 = .ok (.iconst 0, 1) := by decide +kernel
theorem dX8_tryGroup_476 : decode cX8_tryGroup 476 = .ok (.ireturn, 1) := by decide +kernel
theorem dX8_tryGroup_477 : decode cX8_tryGroup 477 = .ok (.iconst 0, 1) := by decide +kernel
theorem dX8_tryGroup_478 : decode cX8_tryGroup 478 = .ok (.ireturn, 1) := by decide +kernel
theorem dX8_runScript_0 : decode cX8_runScript 0 = .ok (.lconst 1, 1) := by decide +kernel
theorem dX8_runScript_1 : decode cX8_runScript 1 = .ok (.lstore 4, 2) := by decide +kernel
theorem dX8_runScript_3 : decode cX8_runScript 3 = .ok (.iconst 0, 1) := by decide +kernel
theorem dX8_runScript_4 : decode cX8_runScript 4 = .ok (.istore 6, 2) := by decide +kernel
theorem dX8_runScript_6 : decode cX8_runScript 6 = .ok (.iload 6, 2) := by decide +kernel
theorem dX8_runScript_8 : decode cX8_runScript 8 = .ok (.iload_n 1, 1) := by decide +kernel
theorem dX8_runScript_9 : decode cX8_runScript 9 = .ok (.if_icmp .ge 23, 3) := by decide +kernel
theorem dX8_runScript_12 : decode cX8_runScript 12 = .ok (.iload 6, 2) := by decide +kernel
theorem dX8_runScript_14 : decode cX8_runScript 14 = .ok (.iconst 3, 1) := by decide +kernel
theorem dX8_runScript_15 : decode cX8_runScript 15 = .ok (.if_icmp .ge 17, 3) := by decide +kernel
theorem dX8_runScript_18 : decode cX8_runScript 18 = .ok (.lload 4, 2) := by decide +kernel
theorem dX8_runScript_20 : decode cX8_runScript 20 = .ok (.ldc2_w 206, 3) := by decide +kernel
theorem dX8_runScript_23 : decode cX8_runScript 23 = .ok (.lmul, 1) := by decide +kernel
theorem dX8_runScript_24 : decode cX8_runScript 24 = .ok (.lstore 4, 2) := by decide +kernel
theorem dX8_runScript_26 : decode cX8_runScript 26 = .ok (.iinc 6 1, 3) := by decide +kernel
theorem dX8_runScript_29 : decode cX8_runScript 29 = .ok (.goto (-23), 3) := by decide +kernel
theorem dX8_runScript_32 : decode cX8_runScript 32 = .ok (.aload_n 0, 1) := by decide +kernel
theorem dX8_runScript_33 : decode cX8_runScript 33 = .ok (.iload_n 1, 1) := by decide +kernel
theorem dX8_runScript_34 : decode cX8_runScript 34 = .ok (.i2l, 1) := by decide +kernel
theorem dX8_runScript_35 : decode cX8_runScript 35 = .ok (.lconst 1, 1) := by decide +kernel
theorem dX8_runScript_36 : decode cX8_runScript 36 = .ok (.ldc2_w 185, 3) := by decide +kernel
theorem dX8_runScript_39 : decode cX8_runScript 39 = .ok (.invokestatic 65, 3) := by decide +kernel
theorem dX8_runScript_42 : decode cX8_runScript 42 = .ok (.ifCond .eq 19, 3) := by decide +kernel
theorem dX8_runScript_45 : decode cX8_runScript 45 = .ok (.lload_n 2, 1) := by decide +kernel
theorem dX8_runScript_46 : decode cX8_runScript 46 = .ok (.lconst 0, 1) := by decide +kernel
theorem dX8_runScript_47 : decode cX8_runScript 47 = .ok (.lload 4, 2) := by decide +kernel
theorem dX8_runScript_49 : decode cX8_runScript 49 = .ok (.lconst 1, 1) := by decide +kernel
theorem dX8_runScript_50 : decode cX8_runScript 50 = .ok (.lsub, 1) := by decide +kernel
theorem dX8_runScript_51 : decode cX8_runScript 51 = .ok (.invokestatic 65, 3) := by decide +kernel
theorem dX8_runScript_54 : decode cX8_runScript 54 = .ok (.ifCond .eq 7, 3) := by decide +kernel
theorem dX8_runScript_57 : decode cX8_runScript 57 = .ok (.iconst 0, 1) := by decide +kernel
theorem dX8_runScript_58 : decode cX8_runScript 58 = .ok (.goto 4, 3) := by decide +kernel
theorem dX8_runScript_61 : decode cX8_runScript 61 = .ok (.iconst 1, 1) := by decide +kernel
theorem dX8_runScript_62 : decode cX8_runScript 62 = .ok (.invokevirtual 103, 3) := by decide +kernel
theorem dX8_runScript_65 : decode cX8_runScript 65 = .ok (.ifCond .eq 5, 3) := by decide +kernel
theorem dX8_runScript_68 : decode cX8_runScript 68 = .ok (.iconst 0, 1) := by decide +kernel
theorem dX8_runScript_69 : decode cX8_runScript 69 = .ok (.ireturn, 1) := by decide +kernel
theorem dX8_runScript_70 : decode cX8_runScript 70 = .ok (.aload_n 0, 1) := by decide +kernel
theorem dX8_runScript_71 : decode cX8_runScript 71 = .ok (.getfield 16, 3) := by decide +kernel
theorem dX8_runScript_74 : decode cX8_runScript 74 = .ok (.iconst 0, 1) := by decide +kernel
theorem dX8_runScript_75 : decode cX8_runScript 75 = .ok (.aload_n 0, 1) := by decide +kernel
theorem dX8_runScript_76 : decode cX8_runScript 76 = .ok (.getfield 19, 3) := by decide +kernel
theorem dX8_runScript_79 : decode cX8_runScript 79 = .ok (.iconst 0, 1) := by decide +kernel
theorem dX8_runScript_80 : decode cX8_runScript 80 = .ok (.invokestatic 161, 3) := by decide +kernel
theorem dX8_runScript_83 : decode cX8_runScript 83 = .ok (.iconst 0, 1) := by decide +kernel
theorem dX8_runScript_84 : decode cX8_runScript 84 = .ok (.istore 6, 2) := by decide +kernel
theorem dX8_runScript_86 : decode cX8_runScript 86 = .ok (.iload 6, 2) := by decide +kernel
theorem dX8_runScript_88 : decode cX8_runScript 88 = .ok (.iload_n 1, 1) := by decide +kernel
theorem dX8_runScript_89 : decode cX8_runScript 89 = .ok (.if_icmp .ge 66, 3) := by decide +kernel
theorem dX8_runScript_92 : decode cX8_runScript 92 = .ok (.lload 4, 2) := by decide +kernel
theorem dX8_runScript_94 : decode cX8_runScript 94 = .ok (.ldc2_w 206, 3) := by decide +kernel
theorem dX8_runScript_97 : decode cX8_runScript 97 = .ok (.ldiv, 1) := by decide +kernel
theorem dX8_runScript_98 : decode cX8_runScript 98 = .ok (.lstore 4, 2) := by decide +kernel
theorem dX8_runScript_100 : decode cX8_runScript 100 = .ok (.lload_n 2, 1) := by decide +kernel
theorem dX8_runScript_101 : decode cX8_runScript 101 = .ok (.lload 4, 2) := by decide +kernel
theorem dX8_runScript_103 : decode cX8_runScript 103 = .ok (.ldiv, 1) := by decide +kernel
theorem dX8_runScript_104 : decode cX8_runScript 104 = .ok (.ldc2_w 206, 3) := by decide +kernel
theorem dX8_runScript_107 : decode cX8_runScript 107 = .ok (.lrem, 1) := by decide +kernel
theorem dX8_runScript_108 : decode cX8_runScript 108 = .ok (.l2i, 1) := by decide +kernel
theorem dX8_runScript_109 : decode cX8_runScript 109 = .ok (.istore 7, 2) := by decide +kernel
theorem dX8_runScript_111 : decode cX8_runScript 111 = .ok (.aload_n 0, 1) := by decide +kernel
theorem dX8_runScript_112 : decode cX8_runScript 112 = .ok (.iload 7, 2) := by decide +kernel
theorem dX8_runScript_114 : decode cX8_runScript 114 = .ok (.sipush 10000, 3) := by decide +kernel
theorem dX8_runScript_117 : decode cX8_runScript 117 = .ok (.idiv, 1) := by decide +kernel
theorem dX8_runScript_118 : decode cX8_runScript 118 = .ok (.iload 7, 2) := by decide +kernel
theorem dX8_runScript_120 : decode cX8_runScript 120 = .ok (.sipush 1000, 3) := by decide +kernel
theorem dX8_runScript_123 : decode cX8_runScript 123 = .ok (.idiv, 1) := by decide +kernel
theorem dX8_runScript_124 : decode cX8_runScript 124 = .ok (.bipush 10, 2) := by decide +kernel
theorem dX8_runScript_126 : decode cX8_runScript 126 = .ok (.irem, 1) := by decide +kernel
theorem dX8_runScript_127 : decode cX8_runScript 127 = .ok (.iload 7, 2) := by decide +kernel
theorem dX8_runScript_129 : decode cX8_runScript 129 = .ok (.bipush 100, 2) := by decide +kernel
theorem dX8_runScript_131 : decode cX8_runScript 131 = .ok (.idiv, 1) := by decide +kernel
theorem dX8_runScript_132 : decode cX8_runScript 132 = .ok (.bipush 10, 2) := by decide +kernel
theorem dX8_runScript_134 : decode cX8_runScript 134 = .ok (.irem, 1) := by decide +kernel
theorem dX8_runScript_135 : decode cX8_runScript 135 = .ok (.iload 7, 2) := by decide +kernel
theorem dX8_runScript_137 : decode cX8_runScript 137 = .ok (.bipush 100, 2) := by decide +kernel
theorem dX8_runScript_139 : decode cX8_runScript 139 = .ok (.irem, 1) := by decide +kernel
theorem dX8_runScript_140 : decode cX8_runScript 140 = .ok (.invokevirtual 208, 3) := by decide +kernel
theorem dX8_runScript_143 : decode cX8_runScript 143 = .ok (.ifCond .ne 6, 3) := by decide +kernel
theorem dX8_runScript_146 : decode cX8_runScript 146 = .ok (.iload 6, 2) := by decide +kernel
theorem dX8_runScript_148 : decode cX8_runScript 148 = .ok (.ireturn, 1) := by decide +kernel
theorem dX8_runScript_149 : decode cX8_runScript 149 = .ok (.iinc 6 1, 3) := by decide +kernel
theorem dX8_runScript_152 : decode cX8_runScript 152 = .ok (.goto (-66), 3) := by decide +kernel
theorem dX8_runScript_155 : decode cX8_runScript 155 = .ok (.sipush (-999), 3) := by decide +kernel
theorem dX8_runScript_158 : decode cX8_runScript 158 = .ok (.ireturn, 1) := by decide +kernel
theorem dX8_simulate_0 : decode cX8_simulate 0 = .ok (.aload_n 0, 1) := by decide +kernel
theorem dX8_simulate_1 : decode cX8_simulate 1 = .ok (.iload_n 3, 1) := by decide +kernel
theorem dX8_simulate_2 : decode cX8_simulate 2 = .ok (.i2l, 1) := by decide +kernel
theorem dX8_simulate_3 : decode cX8_simulate 3 = .ok (.lconst 1, 1) := by decide +kernel
theorem dX8_simulate_4 : decode cX8_simulate 4 = .ok (.ldc2_w 212, 3) := by decide +kernel
theorem dX8_simulate_7 : decode cX8_simulate 7 = .ok (.invokestatic 65, 3) := by decide +kernel
theorem dX8_simulate_10 : decode cX8_simulate 10 = .ok (.ifCond .eq 7, 3) := by decide +kernel
theorem dX8_simulate_13 : decode cX8_simulate 13 = .ok (.iconst 0, 1) := by decide +kernel
theorem dX8_simulate_14 : decode cX8_simulate 14 = .ok (.goto 4, 3) := by decide +kernel
theorem dX8_simulate_17 : decode cX8_simulate 17 = .ok (.iconst 1, 1) := by decide +kernel
theorem dX8_simulate_18 : decode cX8_simulate 18 = .ok (.invokevirtual 103, 3) := by decide +kernel
theorem dX8_simulate_21 : decode cX8_simulate 21 = .ok (.ifCond .eq 5, 3) := by decide +kernel
theorem dX8_simulate_24 : decode cX8_simulate 24 = .ok (.iconst 0, 1) := by decide +kernel
theorem dX8_simulate_25 : decode cX8_simulate 25 = .ok (.ireturn, 1) := by decide +kernel
theorem dX8_simulate_26 : decode cX8_simulate 26 = .ok (.iconst 0, 1) := by decide +kernel
theorem dX8_simulate_27 : decode cX8_simulate 27 = .ok (.istore 4, 2) := by decide +kernel
theorem dX8_simulate_29 : decode cX8_simulate 29 = .ok (.iconst 0, 1) := by decide +kernel
theorem dX8_simulate_30 : decode cX8_simulate 30 = .ok (.istore 5, 2) := by decide +kernel
theorem dX8_simulate_32 : decode cX8_simulate 32 = .ok (.lload_n 1, 1) := by decide +kernel
theorem dX8_simulate_33 : decode cX8_simulate 33 = .ok (.lstore 6, 2) := by decide +kernel
theorem dX8_simulate_35 : decode cX8_simulate 35 = .ok (.iconst 0, 1) := by decide +kernel
theorem dX8_simulate_36 : decode cX8_simulate 36 = .ok (.istore 8, 2) := by decide +kernel
theorem dX8_simulate_38 : decode cX8_simulate 38 = .ok (.iload 8, 2) := by decide +kernel
theorem dX8_simulate_40 : decode cX8_simulate 40 = .ok (.iload_n 3, 1) := by decide +kernel
theorem dX8_simulate_41 : decode cX8_simulate 41 = .ok (.if_icmp .ge 150, 3) := by decide +kernel
theorem dX8_simulate_44 : decode cX8_simulate 44 = .ok (.aload_n 0, 1) := by decide +kernel
theorem dX8_simulate_45 : decode cX8_simulate 45 = .ok (.aload_n 0, 1) := by decide +kernel
theorem dX8_simulate_46 : decode cX8_simulate 46 = .ok (.getfield 16, 3) := by decide +kernel
theorem dX8_simulate_49 : decode cX8_simulate 49 = .ok (.sipush (-999), 3) := by decide +kernel
theorem dX8_simulate_52 : decode cX8_simulate 52 = .ok (.invokevirtual 81, 3) := by decide +kernel
theorem dX8_simulate_55 : decode cX8_simulate 55 = .ok (.iconst 0, 1) := by decide +kernel
theorem dX8_simulate_56 : decode cX8_simulate 56 = .ok (.istore 9, 2) := by decide +kernel
theorem dX8_simulate_58 : decode cX8_simulate 58 = .ok (.iload 9, 2) := by decide +kernel
theorem dX8_simulate_60 : decode cX8_simulate 60 = .ok (.aload_n 0, 1) := by decide +kernel
theorem dX8_simulate_61 : decode cX8_simulate 61 = .ok (.getfield 16, 3) := by decide +kernel
theorem dX8_simulate_64 : decode cX8_simulate 64 = .ok (.iconst 1, 1) := by decide +kernel
theorem dX8_simulate_65 : decode cX8_simulate 65 = .ok (.iaload, 1) := by decide +kernel
theorem dX8_simulate_66 : decode cX8_simulate 66 = .ok (.if_icmp .ge 72, 3) := by decide +kernel
theorem dX8_simulate_69 : decode cX8_simulate 69 = .ok (.aload_n 0, 1) := by decide +kernel
theorem dX8_simulate_70 : decode cX8_simulate 70 = .ok (.getfield 16, 3) := by decide +kernel
theorem dX8_simulate_73 : decode cX8_simulate 73 = .ok (.bipush 64, 2) := by decide +kernel
theorem dX8_simulate_75 : decode cX8_simulate 75 = .ok (.iload 9, 2) := by decide +kernel
theorem dX8_simulate_77 : decode cX8_simulate 77 = .ok (.iadd, 1) := by decide +kernel
theorem dX8_simulate_78 : decode cX8_simulate 78 = .ok (.iaload, 1) := by decide +kernel
theorem dX8_simulate_79 : decode cX8_simulate 79 = .ok (.ifCond .ne 53, 3) := by decide +kernel
theorem dX8_simulate_82 : decode cX8_simulate 82 = .ok (.lload 6, 2) := by decide +kernel
theorem dX8_simulate_84 : decode cX8_simulate 84 = .ok (.ldc2_w 214, 3) := by decide +kernel
theorem dX8_simulate_87 : decode cX8_simulate 87 = .ok (.lmul, 1) := by decide +kernel
theorem dX8_simulate_88 : decode cX8_simulate 88 = .ok (.ldc2_w 216, 3) := by decide +kernel
theorem dX8_simulate_91 : decode cX8_simulate 91 = .ok (.ladd, 1) := by decide +kernel
theorem dX8_simulate_92 : decode cX8_simulate 92 = .ok (.lstore 6, 2) := by decide +kernel
theorem dX8_simulate_94 : decode cX8_simulate 94 = .ok (.lload 6, 2) := by decide +kernel
theorem dX8_simulate_96 : decode cX8_simulate 96 = .ok (.bipush 33, 2) := by decide +kernel
theorem dX8_simulate_98 : decode cX8_simulate 98 = .ok (.lushr, 1) := by decide +kernel
theorem dX8_simulate_99 : decode cX8_simulate 99 = .ok (.ldc2_w 177, 3) := by decide +kernel
theorem dX8_simulate_102 : decode cX8_simulate 102 = .ok (.lrem, 1) := by decide +kernel
theorem dX8_simulate_103 : decode cX8_simulate 103 = .ok (.lconst 0, 1) := by decide +kernel
theorem dX8_simulate_104 : decode cX8_simulate 104 = .ok (.lcmp, 1) := by decide +kernel
theorem dX8_simulate_105 : decode cX8_simulate 105 = .ok (.ifCond .ne 27, 3) := by decide +kernel
theorem dX8_simulate_108 : decode cX8_simulate 108 = .ok (.aload_n 0, 1) := by decide +kernel
theorem dX8_simulate_109 : decode cX8_simulate 109 = .ok (.aload_n 0, 1) := by decide +kernel
theorem dX8_simulate_110 : decode cX8_simulate 110 = .ok (.getfield 16, 3) := by decide +kernel
theorem dX8_simulate_113 : decode cX8_simulate 113 = .ok (.iconst 4, 1) := by decide +kernel
theorem dX8_simulate_114 : decode cX8_simulate 114 = .ok (.iload 9, 2) := by decide +kernel
theorem dX8_simulate_116 : decode cX8_simulate 116 = .ok (.iadd, 1) := by decide +kernel
theorem dX8_simulate_117 : decode cX8_simulate 117 = .ok (.iaload, 1) := by decide +kernel
theorem dX8_simulate_118 : decode cX8_simulate 118 = .ok (.aload_n 0, 1) := by decide +kernel
theorem dX8_simulate_119 : decode cX8_simulate 119 = .ok (.getfield 16, 3) := by decide +kernel
theorem dX8_simulate_122 : decode cX8_simulate 122 = .ok (.bipush 24, 2) := by decide +kernel
theorem dX8_simulate_124 : decode cX8_simulate 124 = .ok (.iload 9, 2) := by decide +kernel
theorem dX8_simulate_126 : decode cX8_simulate 126 = .ok (.iadd, 1) := by decide +kernel
theorem dX8_simulate_127 : decode cX8_simulate 127 = .ok (.iaload, 1) := by decide +kernel
theorem dX8_simulate_128 : decode cX8_simulate 128 = .ok (.iconst 0, 1) := by decide +kernel
theorem dX8_simulate_129 : decode cX8_simulate 129 = .ok (.invokevirtual 69, 3) := by decide +kernel
theorem dX8_simulate_132 : decode cX8_simulate 132 = .ok (.iinc 9 1, 3) := by decide +kernel
theorem dX8_simulate_135 : decode cX8_simulate 135 = .ok (.goto (-77), 3) := by decide +kernel
theorem dX8_simulate_138 : decode cX8_simulate 138 = .ok (.aload_n 0, 1) := by decide +kernel
theorem dX8_simulate_139 : decode cX8_simulate 139 = .ok (.aload_n 0, 1) := by decide +kernel
theorem dX8_simulate_140 : decode cX8_simulate 140 = .ok (.getfield 16, 3) := by decide +kernel
theorem dX8_simulate_143 : decode cX8_simulate 143 = .ok (.invokevirtual 84, 3) := by decide +kernel
theorem dX8_simulate_146 : decode cX8_simulate 146 = .ok (.istore 9, 2) := by decide +kernel
theorem dX8_simulate_148 : decode cX8_simulate 148 = .ok (.iload 4, 2) := by decide +kernel
theorem dX8_simulate_150 : decode cX8_simulate 150 = .ok (.iload 9, 2) := by decide +kernel
theorem dX8_simulate_152 : decode cX8_simulate 152 = .ok (.sipush (-999), 3) := by decide +kernel
theorem dX8_simulate_155 : decode cX8_simulate 155 = .ok (.if_icmp .ne 7, 3) := by decide +kernel
theorem dX8_simulate_158 : decode cX8_simulate 158 = .ok (.iconst 1, 1) := by decide +kernel
theorem dX8_simulate_159 : decode cX8_simulate 159 = .ok (.goto 4, 3) := by decide +kernel
theorem dX8_simulate_162 : decode cX8_simulate 162 = .ok (.iconst 0, 1) := by decide +kernel
theorem dX8_simulate_163 : decode cX8_simulate 163 = .ok (.iadd, 1) := by decide +kernel
theorem dX8_simulate_164 : decode cX8_simulate 164 = .ok (.istore 4, 2) := by decide +kernel
theorem dX8_simulate_166 : decode cX8_simulate 166 = .ok (.iload 5, 2) := by decide +kernel
theorem dX8_simulate_168 : decode cX8_simulate 168 = .ok (.iload 9, 2) := by decide +kernel
theorem dX8_simulate_170 : decode cX8_simulate 170 = .ok (.sipush (-999), 3) := by decide +kernel
theorem dX8_simulate_173 : decode cX8_simulate 173 = .ok (.if_icmp .ne 7, 3) := by decide +kernel
theorem dX8_simulate_176 : decode cX8_simulate 176 = .ok (.iconst 0, 1) := by decide +kernel
theorem dX8_simulate_177 : decode cX8_simulate 177 = .ok (.goto 5, 3) := by decide +kernel
theorem dX8_simulate_180 : decode cX8_simulate 180 = .ok (.iload 9, 2) := by decide +kernel
theorem dX8_simulate_182 : decode cX8_simulate 182 = .ok (.iadd, 1) := by decide +kernel
theorem dX8_simulate_183 : decode cX8_simulate 183 = .ok (.istore 5, 2) := by decide +kernel
theorem dX8_simulate_185 : decode cX8_simulate 185 = .ok (.iinc 8 1, 3) := by decide +kernel
theorem dX8_simulate_188 : decode cX8_simulate 188 = .ok (.goto (-150), 3) := by decide +kernel
theorem dX8_simulate_191 : decode cX8_simulate 191 = .ok (.ldc 218, 2) := by decide +kernel
theorem dX8_simulate_193 : decode cX8_simulate 193 = .ok (.iload 4, 2) := by decide +kernel
theorem dX8_simulate_195 : decode cX8_simulate 195 = .ok (.imul, 1) := by decide +kernel
theorem dX8_simulate_196 : decode cX8_simulate 196 = .ok (.iload 5, 2) := by decide +kernel
theorem dX8_simulate_198 : decode cX8_simulate 198 = .ok (.iadd, 1) := by decide +kernel
theorem dX8_simulate_199 : decode cX8_simulate 199 = .ok (.ireturn, 1) := by decide +kernel
theorem dX8_save_0 : decode cX8_save 0 = .ok (.aload_n 0, 1) := by decide +kernel
theorem dX8_save_1 : decode cX8_save 1 = .ok (.iload_n 1, 1) := by decide +kernel
theorem dX8_save_2 : decode cX8_save 2 = .ok (.i2l, 1) := by decide +kernel
theorem dX8_save_3 : decode cX8_save 3 = .ok (.lconst 0, 1) := by decide +kernel
theorem dX8_save_4 : decode cX8_save 4 = .ok (.lconst 1, 1) := by decide +kernel
theorem dX8_save_5 : decode cX8_save 5 = .ok (.invokestatic 65, 3) := by decide +kernel
theorem dX8_save_8 : decode cX8_save 8 = .ok (.ifCond .eq 7, 3) := by decide +kernel
theorem dX8_save_11 : decode cX8_save 11 = .ok (.iconst 0, 1) := by decide +kernel
theorem dX8_save_12 : decode cX8_save 12 = .ok (.goto 4, 3) := by decide +kernel
theorem dX8_save_15 : decode cX8_save 15 = .ok (.iconst 1, 1) := by decide +kernel
theorem dX8_save_16 : decode cX8_save 16 = .ok (.invokevirtual 103, 3) := by decide +kernel
theorem dX8_save_19 : decode cX8_save 19 = .ok (.ifCond .eq 5, 3) := by decide +kernel
theorem dX8_save_22 : decode cX8_save 22 = .ok (.iconst 0, 1) := by decide +kernel
theorem dX8_save_23 : decode cX8_save 23 = .ok (.ireturn, 1) := by decide +kernel
theorem dX8_save_24 : decode cX8_save 24 = .ok (.aload_n 0, 1) := by decide +kernel
theorem dX8_save_25 : decode cX8_save 25 = .ok (.getfield 16, 3) := by decide +kernel
theorem dX8_save_28 : decode cX8_save 28 = .ok (.iconst 0, 1) := by decide +kernel
theorem dX8_save_29 : decode cX8_save 29 = .ok (.aload_n 0, 1) := by decide +kernel
theorem dX8_save_30 : decode cX8_save 30 = .ok (.getfield 25, 3) := by decide +kernel
theorem dX8_save_33 : decode cX8_save 33 = .ok (.bipush 84, 2) := by decide +kernel
theorem dX8_save_35 : decode cX8_save 35 = .ok (.iload_n 1, 1) := by decide +kernel
theorem dX8_save_36 : decode cX8_save 36 = .ok (.imul, 1) := by decide +kernel
theorem dX8_save_37 : decode cX8_save 37 = .ok (.invokestatic 161, 3) := by decide +kernel
theorem dX8_save_40 : decode cX8_save 40 = .ok (.aload_n 0, 1) := by decide +kernel
theorem dX8_save_41 : decode cX8_save 41 = .ok (.getfield 28, 3) := by decide +kernel
theorem dX8_save_44 : decode cX8_save 44 = .ok (.iload_n 1, 1) := by decide +kernel
theorem dX8_save_45 : decode cX8_save 45 = .ok (.iconst 1, 1) := by decide +kernel
theorem dX8_save_46 : decode cX8_save 46 = .ok (.bastore, 1) := by decide +kernel
theorem dX8_save_47 : decode cX8_save 47 = .ok (.aload_n 0, 1) := by decide +kernel
theorem dX8_save_48 : decode cX8_save 48 = .ok (.getfield 16, 3) := by decide +kernel
theorem dX8_save_51 : decode cX8_save 51 = .ok (.iconst 1, 1) := by decide +kernel
theorem dX8_save_52 : decode cX8_save 52 = .ok (.iaload, 1) := by decide +kernel
theorem dX8_save_53 : decode cX8_save 53 = .ok (.ireturn, 1) := by decide +kernel
theorem dX8_restore_0 : decode cX8_restore 0 = .ok (.aload_n 0, 1) := by decide +kernel
theorem dX8_restore_1 : decode cX8_restore 1 = .ok (.iload_n 1, 1) := by decide +kernel
theorem dX8_restore_2 : decode cX8_restore 2 = .ok (.i2l, 1) := by decide +kernel
theorem dX8_restore_3 : decode cX8_restore 3 = .ok (.lconst 0, 1) := by decide +kernel
theorem dX8_restore_4 : decode cX8_restore 4 = .ok (.lconst 1, 1) := by decide +kernel
theorem dX8_restore_5 : decode cX8_restore 5 = .ok (.invokestatic 65, 3) := by decide +kernel
theorem dX8_restore_8 : decode cX8_restore 8 = .ok (.ifCond .ne 7, 3) := by decide +kernel
theorem dX8_restore_11 : decode cX8_restore 11 = .ok (.iconst 1, 1) := by decide +kernel
theorem dX8_restore_12 : decode cX8_restore 12 = .ok (.goto 17, 3) := by decide +kernel
theorem dX8_restore_15 : decode cX8_restore 15 = .ok (.aload_n 0, 1) := by decide +kernel
theorem dX8_restore_16 : decode cX8_restore 16 = .ok (.getfield 28, 3) := by decide +kernel
theorem dX8_restore_19 : decode cX8_restore 19 = .ok (.iload_n 1, 1) := by decide +kernel
theorem dX8_restore_20 : decode cX8_restore 20 = .ok (.baload, 1) := by decide +kernel
theorem dX8_restore_21 : decode cX8_restore 21 = .ok (.ifCond .ne 7, 3) := by decide +kernel
theorem dX8_restore_24 : decode cX8_restore 24 = .ok (.iconst 2, 1) := by decide +kernel
theorem dX8_restore_25 : decode cX8_restore 25 = .ok (.goto 4, 3) := by decide +kernel
theorem dX8_restore_28 : decode cX8_restore 28 = .ok (.iconst 0, 1) := by decide +kernel
theorem dX8_restore_29 : decode cX8_restore 29 = .ok (.invokevirtual 103, 3) := by decide +kernel
theorem dX8_restore_32 : decode cX8_restore 32 = .ok (.ifCond .eq 5, 3) := by decide +kernel
theorem dX8_restore_35 : decode cX8_restore 35 = .ok (.iconst 0, 1) := by decide +kernel
theorem dX8_restore_36 : decode cX8_restore 36 = .ok (.ireturn, 1) := by decide +kernel
theorem dX8_restore_37 : decode cX8_restore 37 = .ok (.aload_n 0, 1) := by decide +kernel
theorem dX8_restore_38 : decode cX8_restore 38 = .ok (.getfield 25, 3) := by decide +kernel
theorem dX8_restore_41 : decode cX8_restore 41 = .ok (.bipush 84, 2) := by decide +kernel
theorem dX8_restore_43 : decode cX8_restore 43 = .ok (.iload_n 1, 1) := by decide +kernel
theorem dX8_restore_44 : decode cX8_restore 44 = .ok (.imul, 1) := by decide +kernel
theorem dX8_restore_45 : decode cX8_restore 45 = .ok (.aload_n 0, 1) := by decide +kernel
theorem dX8_restore_46 : decode cX8_restore 46 = .ok (.getfield 16, 3) := by decide +kernel
theorem dX8_restore_49 : decode cX8_restore 49 = .ok (.iconst 0, 1) := by decide +kernel
theorem dX8_restore_50 : decode cX8_restore 50 = .ok (.invokestatic 161, 3) := by decide +kernel
theorem dX8_restore_53 : decode cX8_restore 53 = .ok (.aload_n 0, 1) := by decide +kernel
theorem dX8_restore_54 : decode cX8_restore 54 = .ok (.invokevirtual 165, 3) := by decide +kernel
theorem dX8_restore_57 : decode cX8_restore 57 = .ok (.aload_n 0, 1) := by decide +kernel
theorem dX8_restore_58 : decode cX8_restore 58 = .ok (.getfield 16, 3) := by decide +kernel
theorem dX8_restore_61 : decode cX8_restore 61 = .ok (.iconst 1, 1) := by decide +kernel
theorem dX8_restore_62 : decode cX8_restore 62 = .ok (.iaload, 1) := by decide +kernel
theorem dX8_restore_63 : decode cX8_restore 63 = .ok (.ireturn, 1) := by decide +kernel
theorem dJ9_max_7cf53_0 : decode cJ9_max_7cf53 0 = .ok (.iload_n 0, 1) := by decide +kernel
theorem dJ9_max_7cf53_1 : decode cJ9_max_7cf53 1 = .ok (.iload_n 1, 1) := by decide +kernel
theorem dJ9_max_7cf53_2 : decode cJ9_max_7cf53 2 = .ok (.if_icmp .lt 7, 3) := by decide +kernel
theorem dJ9_max_7cf53_5 : decode cJ9_max_7cf53 5 = .ok (.iload_n 0, 1) := by decide +kernel
theorem dJ9_max_7cf53_6 : decode cJ9_max_7cf53 6 = .ok (.goto 4, 3) := by decide +kernel
theorem dJ9_max_7cf53_9 : decode cJ9_max_7cf53 9 = .ok (.iload_n 1, 1) := by decide +kernel
theorem dJ9_max_7cf53_10 : decode cJ9_max_7cf53 10 = .ok (.ireturn, 1) := by decide +kernel
theorem dJ9_min_7cf53_0 : decode cJ9_min_7cf53 0 = .ok (.iload_n 0, 1) := by decide +kernel
theorem dJ9_min_7cf53_1 : decode cJ9_min_7cf53 1 = .ok (.iload_n 1, 1) := by decide +kernel
theorem dJ9_min_7cf53_2 : decode cJ9_min_7cf53 2 = .ok (.if_icmp .gt 7, 3) := by decide +kernel
theorem dJ9_min_7cf53_5 : decode cJ9_min_7cf53 5 = .ok (.iload_n 0, 1) := by decide +kernel
theorem dJ9_min_7cf53_6 : decode cJ9_min_7cf53 6 = .ok (.goto 4, 3) := by decide +kernel
theorem dJ9_min_7cf53_9 : decode cJ9_min_7cf53 9 = .ok (.iload_n 1, 1) := by decide +kernel
theorem dJ9_min_7cf53_10 : decode cJ9_min_7cf53 10 = .ok (.ireturn, 1) := by decide +kernel
theorem dJ0_length_8abf5_0 : decode cJ0_length_8abf5 0 = .ok (.aload_n 0, 1) := by decide +kernel
theorem dJ0_length_8abf5_1 : decode cJ0_length_8abf5 1 = .ok (.getfield 9, 3) := by decide +kernel
theorem dJ0_length_8abf5_4 : decode cJ0_length_8abf5 4 = .ok (.arraylength, 1) := by decide +kernel
theorem dJ0_length_8abf5_5 : decode cJ0_length_8abf5 5 = .ok (.aload_n 0, 1) := by decide +kernel
theorem dJ0_length_8abf5_6 : decode cJ0_length_8abf5 6 = .ok (.invokevirtual 335, 3) := by decide +kernel
theorem dJ0_length_8abf5_9 : decode cJ0_length_8abf5 9 = .ok (.ishr, 1) := by decide +kernel
theorem dJ0_length_8abf5_10 : decode cJ0_length_8abf5 10 = .ok (.ireturn, 1) := by decide +kernel
theorem dJ0_isEmpty_aae02_0 : decode cJ0_isEmpty_aae02 0 = .ok (.aload_n 0, 1) := by decide +kernel
theorem dJ0_isEmpty_aae02_1 : decode cJ0_isEmpty_aae02 1 = .ok (.getfield 9, 3) := by decide +kernel
theorem dJ0_isEmpty_aae02_4 : decode cJ0_isEmpty_aae02 4 = .ok (.arraylength, 1) := by decide +kernel
theorem dJ0_isEmpty_aae02_5 : decode cJ0_isEmpty_aae02 5 = .ok (.ifCond .ne 7, 3) := by decide +kernel
theorem dJ0_isEmpty_aae02_8 : decode cJ0_isEmpty_aae02 8 = .ok (.iconst 1, 1) := by decide +kernel
theorem dJ0_isEmpty_aae02_9 : decode cJ0_isEmpty_aae02 9 = .ok (.goto 4, 3) := by decide +kernel
theorem dJ0_isEmpty_aae02_12 : decode cJ0_isEmpty_aae02 12 = .ok (.iconst 0, 1) := by decide +kernel
theorem dJ0_isEmpty_aae02_13 : decode cJ0_isEmpty_aae02 13 = .ok (.ireturn, 1) := by decide +kernel
theorem dJ0_charAt_5068e_0 : decode cJ0_charAt_5068e 0 = .ok (.aload_n 0, 1) := by decide +kernel
theorem dJ0_charAt_5068e_1 : decode cJ0_charAt_5068e 1 = .ok (.invokevirtual 492, 3) := by decide +kernel
theorem dJ0_charAt_5068e_4 : decode cJ0_charAt_5068e 4 = .ok (.ifCond .eq 12, 3) := by decide +kernel
theorem dJ0_charAt_5068e_7 : decode cJ0_charAt_5068e 7 = .ok (.aload_n 0, 1) := by decide +kernel
theorem dJ0_charAt_5068e_8 : decode cJ0_charAt_5068e 8 = .ok (.getfield 9, 3) := by decide +kernel
theorem dJ0_charAt_5068e_11 : decode cJ0_charAt_5068e 11 = .ok (.iload_n 1, 1) := by decide +kernel
theorem dJ0_charAt_5068e_12 : decode cJ0_charAt_5068e 12 = .ok (.invokestatic 495, 3) := by decide +kernel
theorem dJ0_charAt_5068e_15 : decode cJ0_charAt_5068e 15 = .ok (.ireturn, 1) := by decide +kernel
theorem dJ0_charAt_5068e_16 : decode cJ0_charAt_5068e 16 = .ok (.aload_n 0, 1) := by decide +kernel
theorem dJ0_charAt_5068e_17 : decode cJ0_charAt_5068e 17 = .ok (.getfield 9, 3) := by decide +kernel
theorem dJ0_charAt_5068e_20 : decode cJ0_charAt_5068e 20 = .ok (.iload_n 1, 1) := by decide +kernel
theorem dJ0_charAt_5068e_21 : decode cJ0_charAt_5068e 21 = .ok (.invokestatic 498, 3) := by decide +kernel
theorem dJ0_charAt_5068e_24 : decode cJ0_charAt_5068e 24 = .ok (.ireturn, 1) := by decide +kernel
theorem dJ0_coder_7d493_0 : decode cJ0_coder_7d493 0 = .ok (.getstatic 38, 3) := by decide +kernel
theorem dJ0_coder_7d493_3 : decode cJ0_coder_7d493 3 = .ok (.ifCond .eq 10, 3) := by decide +kernel
theorem dJ0_coder_7d493_6 : decode cJ0_coder_7d493 6 = .ok (.aload_n 0, 1) := by decide +kernel
theorem dJ0_coder_7d493_7 : decode cJ0_coder_7d493 7 = .ok (.getfield 15, 3) := by decide +kernel
theorem dJ0_coder_7d493_10 : decode cJ0_coder_7d493 10 = .ok (.goto 4, 3) := by decide +kernel
theorem dJ0_coder_7d493_13 : decode cJ0_coder_7d493 13 = .ok (.iconst 1, 1) := by decide +kernel
theorem dJ0_coder_7d493_14 : decode cJ0_coder_7d493 14 = .ok (.ireturn, 1) := by decide +kernel
theorem dJ0_isLatin1_aae02_0 : decode cJ0_isLatin1_aae02 0 = .ok (.getstatic 38, 3) := by decide +kernel
theorem dJ0_isLatin1_aae02_3 : decode cJ0_isLatin1_aae02 3 = .ok (.ifCond .eq 14, 3) := by decide +kernel
theorem dJ0_isLatin1_aae02_6 : decode cJ0_isLatin1_aae02 6 = .ok (.aload_n 0, 1) := by decide +kernel
theorem dJ0_isLatin1_aae02_7 : decode cJ0_isLatin1_aae02 7 = .ok (.getfield 15, 3) := by decide +kernel
theorem dJ0_isLatin1_aae02_10 : decode cJ0_isLatin1_aae02 10 = .ok (.ifCond .ne 7, 3) := by decide +kernel
theorem dJ0_isLatin1_aae02_13 : decode cJ0_isLatin1_aae02 13 = .ok (.iconst 1, 1) := by decide +kernel
theorem dJ0_isLatin1_aae02_14 : decode cJ0_isLatin1_aae02 14 = .ok (.goto 4, 3) := by decide +kernel
theorem dJ0_isLatin1_aae02_17 : decode cJ0_isLatin1_aae02 17 = .ok (.iconst 0, 1) := by decide +kernel
theorem dJ0_isLatin1_aae02_18 : decode cJ0_isLatin1_aae02 18 = .ok (.ireturn, 1) := by decide +kernel
theorem dJ0_checkIndex_df160_0 : decode cJ0_checkIndex_df160 0 = .ok (.iload_n 0, 1) := by decide +kernel
theorem dJ0_checkIndex_df160_1 : decode cJ0_checkIndex_df160 1 = .ok (.iload_n 1, 1) := by decide +kernel
theorem dJ0_checkIndex_df160_2 : decode cJ0_checkIndex_df160 2 = .ok (.getstatic 1053, 3) := by decide +kernel
theorem dJ0_checkIndex_df160_5 : decode cJ0_checkIndex_df160 5 = .ok (.invokestatic 1059, 3) := by decide +kernel
theorem dJ0_checkIndex_df160_8 : decode cJ0_checkIndex_df160 8 = .ok (.pop, 1) := by decide +kernel
theorem dJ0_checkIndex_df160_9 : decode cJ0_checkIndex_df160 9 = .ok (.return_, 1) := by decide +kernel
theorem dJ1_charAt_3b067_0 : decode cJ1_charAt_3b067 0 = .ok (.iload_n 1, 1) := by decide +kernel
theorem dJ1_charAt_3b067_1 : decode cJ1_charAt_3b067 1 = .ok (.aload_n 0, 1) := by decide +kernel
theorem dJ1_charAt_3b067_2 : decode cJ1_charAt_3b067 2 = .ok (.arraylength, 1) := by decide +kernel
theorem dJ1_charAt_3b067_3 : decode cJ1_charAt_3b067 3 = .ok (.invokestatic 9, 3) := by decide +kernel
theorem dJ1_charAt_3b067_6 : decode cJ1_charAt_3b067 6 = .ok (.aload_n 0, 1) := by decide +kernel
theorem dJ1_charAt_3b067_7 : decode cJ1_charAt_3b067 7 = .ok (.iload_n 1, 1) := by decide +kernel
theorem dJ1_charAt_3b067_8 : decode cJ1_charAt_3b067 8 = .ok (.baload, 1) := by decide +kernel
theorem dJ1_charAt_3b067_9 : decode cJ1_charAt_3b067 9 = .ok (.sipush 255, 3) := by decide +kernel
theorem dJ1_charAt_3b067_12 : decode cJ1_charAt_3b067 12 = .ok (.iand, 1) := by decide +kernel
theorem dJ1_charAt_3b067_13 : decode cJ1_charAt_3b067 13 = .ok (.i2c, 1) := by decide +kernel
theorem dJ1_charAt_3b067_14 : decode cJ1_charAt_3b067 14 = .ok (.ireturn, 1) := by decide +kernel
theorem dJ2_getChar_3b067_0 : decode cJ2_getChar_3b067 0 = .ok (.getstatic 44, 3) := by decide +kernel
theorem dJ2_getChar_3b067_3 : decode cJ2_getChar_3b067 3 = .ok (.ifCond .ne 25, 3) := by decide +kernel
theorem dJ2_getChar_3b067_6 : decode cJ2_getChar_3b067 6 = .ok (.iload_n 1, 1) := by decide +kernel
theorem dJ2_getChar_3b067_7 : decode cJ2_getChar_3b067 7 = .ok (.ifCond .lt 11, 3) := by decide +kernel
theorem dJ2_getChar_3b067_10 : decode cJ2_getChar_3b067 10 = .ok (.iload_n 1, 1) := by decide +kernel
theorem dJ2_getChar_3b067_11 : decode cJ2_getChar_3b067 11 = .ok (.aload_n 0, 1) := by decide +kernel
theorem dJ2_getChar_3b067_12 : decode cJ2_getChar_3b067 12 = .ok (.invokestatic 48, 3) := by decide +kernel
theorem dJ2_getChar_3b067_15 : decode cJ2_getChar_3b067 15 = .ok (.if_icmp .lt 13, 3) := by decide +kernel
theorem dJ2_getChar_3b067_18 : decode cJ2_getChar_3b067 18 = .ok (.new 52, 3) := by decide +kernel
theorem dJ2_getChar_3b067_21 : decode cJ2_getChar_3b067 21 = .ok (.dup, 1) := by decide +kernel
theorem dJ2_getChar_3b067_22 : decode cJ2_getChar_3b067 22 = .ok (.ldc 54, 2) := by decide +kernel
theorem dJ2_getChar_3b067_24 : decode cJ2_getChar_3b067 24 = .ok (.invokespecial 56, 3) := by decide +kernel
theorem dJ2_getChar_3b067_27 : decode cJ2_getChar_3b067 27 = .ok (.athrow, 1) := by decide +kernel
theorem dJ2_getChar_3b067_28 : decode cJ2_getChar_3b067 28 = .ok (.iload_n 1, 1) := by decide +kernel
theorem dJ2_getChar_3b067_29 : decode cJ2_getChar_3b067 29 = .ok (.iconst 1, 1) := by decide +kernel
theorem dJ2_getChar_3b067_30 : decode cJ2_getChar_3b067 30 = .ok (.ishl, 1) := by decide +kernel
theorem dJ2_getChar_3b067_31 : decode cJ2_getChar_3b067 31 = .ok (.istore_n 1, 1) := by decide +kernel
theorem dJ2_getChar_3b067_32 : decode cJ2_getChar_3b067 32 = .ok (.aload_n 0, 1) := by decide +kernel
theorem dJ2_getChar_3b067_33 : decode cJ2_getChar_3b067 33 = .ok (.iload_n 1, 1) := by decide +kernel
theorem dJ2_getChar_3b067_34 : decode cJ2_getChar_3b067 34 = .ok (.iinc 1 1, 3) := by decide +kernel
theorem dJ2_getChar_3b067_37 : decode cJ2_getChar_3b067 37 = .ok (.baload, 1) := by decide +kernel
theorem dJ2_getChar_3b067_38 : decode cJ2_getChar_3b067 38 = .ok (.sipush 255, 3) := by decide +kernel
theorem dJ2_getChar_3b067_41 : decode cJ2_getChar_3b067 41 = .ok (.iand, 1) := by decide +kernel
theorem dJ2_getChar_3b067_42 : decode cJ2_getChar_3b067 42 = .ok (.getstatic 59, 3) := by decide +kernel
theorem dJ2_getChar_3b067_45 : decode cJ2_getChar_3b067 45 = .ok (.ishl, 1) := by decide +kernel
theorem dJ2_getChar_3b067_46 : decode cJ2_getChar_3b067 46 = .ok (.aload_n 0, 1) := by decide +kernel
theorem dJ2_getChar_3b067_47 : decode cJ2_getChar_3b067 47 = .ok (.iload_n 1, 1) := by decide +kernel
theorem dJ2_getChar_3b067_48 : decode cJ2_getChar_3b067 48 = .ok (.baload, 1) := by decide +kernel
theorem dJ2_getChar_3b067_49 : decode cJ2_getChar_3b067 49 = .ok (.sipush 255, 3) := by decide +kernel
theorem dJ2_getChar_3b067_52 : decode cJ2_getChar_3b067 52 = .ok (.iand, 1) := by decide +kernel
theorem dJ2_getChar_3b067_53 : decode cJ2_getChar_3b067 53 = .ok (.getstatic 63, 3) := by decide +kernel
theorem dJ2_getChar_3b067_56 : decode cJ2_getChar_3b067 56 = .ok (.ishl, 1) := by decide +kernel
theorem dJ2_getChar_3b067_57 : decode cJ2_getChar_3b067 57 = .ok (.ior, 1) := by decide +kernel
theorem dJ2_getChar_3b067_58 : decode cJ2_getChar_3b067 58 = .ok (.i2c, 1) := by decide +kernel
theorem dJ2_getChar_3b067_59 : decode cJ2_getChar_3b067 59 = .ok (.ireturn, 1) := by decide +kernel
theorem dJ2_length_9d52b_0 : decode cJ2_length_9d52b 0 = .ok (.aload_n 0, 1) := by decide +kernel
theorem dJ2_length_9d52b_1 : decode cJ2_length_9d52b 1 = .ok (.arraylength, 1) := by decide +kernel
theorem dJ2_length_9d52b_2 : decode cJ2_length_9d52b 2 = .ok (.iconst 1, 1) := by decide +kernel
theorem dJ2_length_9d52b_3 : decode cJ2_length_9d52b 3 = .ok (.ishr, 1) := by decide +kernel
theorem dJ2_length_9d52b_4 : decode cJ2_length_9d52b 4 = .ok (.ireturn, 1) := by decide +kernel
theorem dJ2_charAt_3b067_0 : decode cJ2_charAt_3b067 0 = .ok (.iload_n 1, 1) := by decide +kernel
theorem dJ2_charAt_3b067_1 : decode cJ2_charAt_3b067 1 = .ok (.aload_n 0, 1) := by decide +kernel
theorem dJ2_charAt_3b067_2 : decode cJ2_charAt_3b067 2 = .ok (.invokestatic 67, 3) := by decide +kernel
theorem dJ2_charAt_3b067_5 : decode cJ2_charAt_3b067 5 = .ok (.aload_n 0, 1) := by decide +kernel
theorem dJ2_charAt_3b067_6 : decode cJ2_charAt_3b067 6 = .ok (.iload_n 1, 1) := by decide +kernel
theorem dJ2_charAt_3b067_7 : decode cJ2_charAt_3b067 7 = .ok (.invokestatic 71, 3) := by decide +kernel
theorem dJ2_charAt_3b067_10 : decode cJ2_charAt_3b067 10 = .ok (.ireturn, 1) := by decide +kernel
theorem dJ2_checkIndex_2214a_0 : decode cJ2_checkIndex_2214a 0 = .ok (.iload_n 0, 1) := by decide +kernel
theorem dJ2_checkIndex_2214a_1 : decode cJ2_checkIndex_2214a 1 = .ok (.aload_n 1, 1) := by decide +kernel
theorem dJ2_checkIndex_2214a_2 : decode cJ2_checkIndex_2214a 2 = .ok (.invokestatic 48, 3) := by decide +kernel
theorem dJ2_checkIndex_2214a_5 : decode cJ2_checkIndex_2214a 5 = .ok (.invokestatic 414, 3) := by decide +kernel
theorem dJ2_checkIndex_2214a_8 : decode cJ2_checkIndex_2214a 8 = .ok (.return_, 1) := by decide +kernel
theorem dJ3_checkIndex_8e157_0 : decode cJ3_checkIndex_8e157 0 = .ok (.iload_n 0, 1) := by decide +kernel
theorem dJ3_checkIndex_8e157_1 : decode cJ3_checkIndex_8e157 1 = .ok (.ifCond .lt 8, 3) := by decide +kernel
theorem dJ3_checkIndex_8e157_4 : decode cJ3_checkIndex_8e157 4 = .ok (.iload_n 0, 1) := by decide +kernel
theorem dJ3_checkIndex_8e157_5 : decode cJ3_checkIndex_8e157 5 = .ok (.iload_n 1, 1) := by decide +kernel
theorem dJ3_checkIndex_8e157_6 : decode cJ3_checkIndex_8e157 6 = .ok (.if_icmp .lt 10, 3) := by decide +kernel
theorem dJ3_checkIndex_8e157_9 : decode cJ3_checkIndex_8e157 9 = .ok (.aload_n 2, 1) := by decide +kernel
theorem dJ3_checkIndex_8e157_10 : decode cJ3_checkIndex_8e157 10 = .ok (.iload_n 0, 1) := by decide +kernel
theorem dJ3_checkIndex_8e157_11 : decode cJ3_checkIndex_8e157 11 = .ok (.iload_n 1, 1) := by decide +kernel
theorem dJ3_checkIndex_8e157_12 : decode cJ3_checkIndex_8e157 12 = .ok (.invokestatic 95, 3) := by decide +kernel
theorem dJ3_checkIndex_8e157_15 : decode cJ3_checkIndex_8e157 15 = .ok (.athrow, 1) := by decide +kernel
theorem dJ3_checkIndex_8e157_16 : decode cJ3_checkIndex_8e157 16 = .ok (.iload_n 0, 1) := by decide +kernel
theorem dJ3_checkIndex_8e157_17 : decode cJ3_checkIndex_8e157 17 = .ok (.ireturn, 1) := by decide +kernel
theorem dL_append_0 : decode cL_append 0 = .ok (.aload_n 2, 1) := by decide +kernel
theorem dL_append_1 : decode cL_append 1 = .ok (.iconst 0, 1) := by decide +kernel
theorem dL_append_2 : decode cL_append 2 = .ok (.aload_n 0, 1) := by decide +kernel
theorem dL_append_3 : decode cL_append 3 = .ok (.iload_n 1, 1) := by decide +kernel
theorem dL_append_4 : decode cL_append 4 = .ok (.invokevirtual 7, 3) := by decide +kernel
theorem dL_append_7 : decode cL_append 7 = .ok (.i2l, 1) := by decide +kernel
theorem dL_append_8 : decode cL_append 8 = .ok (.lastore, 1) := by decide +kernel
theorem dL_append_9 : decode cL_append 9 = .ok (.goto 9, 3) := by decide +kernel
theorem dL_append_12 : decode cL_append 12 = .ok (.astore_n 3, 1) := by decide +kernel
theorem dL_append_13 : decode cL_append 13 = .ok (.iconst 1, 1) := by decide +kernel
theorem dL_append_14 : decode cL_append 14 = .ok (.ireturn, 1) := by decide +kernel
theorem dL_append_15 : decode cL_append 15 = .ok (.astore_n 3, 1) := by decide +kernel
theorem dL_append_16 : decode cL_append 16 = .ok (.iconst 2, 1) := by decide +kernel
theorem dL_append_17 : decode cL_append 17 = .ok (.ireturn, 1) := by decide +kernel
theorem dL_append_18 : decode cL_append 18 = .ok (.iconst 0, 1) := by decide +kernel
theorem dL_append_19 : decode cL_append 19 = .ok (.ireturn, 1) := by decide +kernel
theorem dL_load_0 : decode cL_load 0 = .ok (.aload_n 1, 1) := by decide +kernel
theorem dL_load_1 : decode cL_load 1 = .ok (.iconst 0, 1) := by decide +kernel
theorem dL_load_2 : decode cL_load 2 = .ok (.aload_n 0, 1) := by decide +kernel
theorem dL_load_3 : decode cL_load 3 = .ok (.invokevirtual 17, 3) := by decide +kernel
theorem dL_load_6 : decode cL_load 6 = .ok (.i2l, 1) := by decide +kernel
theorem dL_load_7 : decode cL_load 7 = .ok (.lastore, 1) := by decide +kernel
theorem dL_load_8 : decode cL_load 8 = .ok (.goto 6, 3) := by decide +kernel
theorem dL_load_11 : decode cL_load 11 = .ok (.astore_n 2, 1) := by decide +kernel
theorem dL_load_12 : decode cL_load 12 = .ok (.iconst 1, 1) := by decide +kernel
theorem dL_load_13 : decode cL_load 13 = .ok (.ireturn, 1) := by decide +kernel
theorem dL_load_14 : decode cL_load 14 = .ok (.iconst 0, 1) := by decide +kernel
theorem dL_load_15 : decode cL_load 15 = .ok (.ireturn, 1) := by decide +kernel
theorem dL_about_0 : decode cL_about 0 = .ok (.aload_n 2, 1) := by decide +kernel
theorem dL_about_1 : decode cL_about 1 = .ok (.iconst 0, 1) := by decide +kernel
theorem dL_about_2 : decode cL_about 2 = .ok (.aload_n 0, 1) := by decide +kernel
theorem dL_about_3 : decode cL_about 3 = .ok (.iload_n 1, 1) := by decide +kernel
theorem dL_about_4 : decode cL_about 4 = .ok (.invokevirtual 21, 3) := by decide +kernel
theorem dL_about_7 : decode cL_about 7 = .ok (.i2l, 1) := by decide +kernel
theorem dL_about_8 : decode cL_about 8 = .ok (.lastore, 1) := by decide +kernel
theorem dL_about_9 : decode cL_about 9 = .ok (.goto 6, 3) := by decide +kernel
theorem dL_about_12 : decode cL_about 12 = .ok (.astore_n 3, 1) := by decide +kernel
theorem dL_about_13 : decode cL_about 13 = .ok (.iconst 1, 1) := by decide +kernel
theorem dL_about_14 : decode cL_about 14 = .ok (.ireturn, 1) := by decide +kernel
theorem dL_about_15 : decode cL_about 15 = .ok (.iconst 0, 1) := by decide +kernel
theorem dL_about_16 : decode cL_about 16 = .ok (.ireturn, 1) := by decide +kernel
theorem dL_street_0 : decode cL_street 0 = .ok (.aload_n 3, 1) := by decide +kernel
theorem dL_street_1 : decode cL_street 1 = .ok (.iconst 0, 1) := by decide +kernel
theorem dL_street_2 : decode cL_street 2 = .ok (.aload_n 0, 1) := by decide +kernel
theorem dL_street_3 : decode cL_street 3 = .ok (.iload_n 1, 1) := by decide +kernel
theorem dL_street_4 : decode cL_street 4 = .ok (.iload_n 2, 1) := by decide +kernel
theorem dL_street_5 : decode cL_street 5 = .ok (.invokevirtual 24, 3) := by decide +kernel
theorem dL_street_8 : decode cL_street 8 = .ok (.i2l, 1) := by decide +kernel
theorem dL_street_9 : decode cL_street 9 = .ok (.lastore, 1) := by decide +kernel
theorem dL_street_10 : decode cL_street 10 = .ok (.goto 11, 3) := by decide +kernel
theorem dL_street_13 : decode cL_street 13 = .ok (.astore 4, 2) := by decide +kernel
theorem dL_street_15 : decode cL_street 15 = .ok (.iconst 1, 1) := by decide +kernel
theorem dL_street_16 : decode cL_street 16 = .ok (.ireturn, 1) := by decide +kernel
theorem dL_street_17 : decode cL_street 17 = .ok (.astore 4, 2) := by decide +kernel
theorem dL_street_19 : decode cL_street 19 = .ok (.iconst 2, 1) := by decide +kernel
theorem dL_street_20 : decode cL_street 20 = .ok (.ireturn, 1) := by decide +kernel
theorem dL_street_21 : decode cL_street 21 = .ok (.iconst 0, 1) := by decide +kernel
theorem dL_street_22 : decode cL_street 22 = .ok (.ireturn, 1) := by decide +kernel
theorem dL_crossing_0 : decode cL_crossing 0 = .ok (.aload_n 3, 1) := by decide +kernel
theorem dL_crossing_1 : decode cL_crossing 1 = .ok (.iconst 0, 1) := by decide +kernel
theorem dL_crossing_2 : decode cL_crossing 2 = .ok (.aload_n 0, 1) := by decide +kernel
theorem dL_crossing_3 : decode cL_crossing 3 = .ok (.iload_n 1, 1) := by decide +kernel
theorem dL_crossing_4 : decode cL_crossing 4 = .ok (.iload_n 2, 1) := by decide +kernel
theorem dL_crossing_5 : decode cL_crossing 5 = .ok (.invokevirtual 30, 3) := by decide +kernel
theorem dL_crossing_8 : decode cL_crossing 8 = .ok (.i2l, 1) := by decide +kernel
theorem dL_crossing_9 : decode cL_crossing 9 = .ok (.lastore, 1) := by decide +kernel
theorem dL_crossing_10 : decode cL_crossing 10 = .ok (.goto 11, 3) := by decide +kernel
theorem dL_crossing_13 : decode cL_crossing 13 = .ok (.astore 4, 2) := by decide +kernel
theorem dL_crossing_15 : decode cL_crossing 15 = .ok (.iconst 1, 1) := by decide +kernel
theorem dL_crossing_16 : decode cL_crossing 16 = .ok (.ireturn, 1) := by decide +kernel
theorem dL_crossing_17 : decode cL_crossing 17 = .ok (.astore 4, 2) := by decide +kernel
theorem dL_crossing_19 : decode cL_crossing 19 = .ok (.iconst 2, 1) := by decide +kernel
theorem dL_crossing_20 : decode cL_crossing 20 = .ok (.ireturn, 1) := by decide +kernel
theorem dL_crossing_21 : decode cL_crossing 21 = .ok (.iconst 0, 1) := by decide +kernel
theorem dL_crossing_22 : decode cL_crossing 22 = .ok (.ireturn, 1) := by decide +kernel
theorem dL_between_0 : decode cL_between 0 = .ok (.aload_n 3, 1) := by decide +kernel
theorem dL_between_1 : decode cL_between 1 = .ok (.iconst 0, 1) := by decide +kernel
theorem dL_between_2 : decode cL_between 2 = .ok (.aload_n 0, 1) := by decide +kernel
theorem dL_between_3 : decode cL_between 3 = .ok (.iload_n 1, 1) := by decide +kernel
theorem dL_between_4 : decode cL_between 4 = .ok (.iload_n 2, 1) := by decide +kernel
theorem dL_between_5 : decode cL_between 5 = .ok (.invokevirtual 33, 3) := by decide +kernel
theorem dL_between_8 : decode cL_between 8 = .ok (.i2l, 1) := by decide +kernel
theorem dL_between_9 : decode cL_between 9 = .ok (.lastore, 1) := by decide +kernel
theorem dL_between_10 : decode cL_between 10 = .ok (.goto 7, 3) := by decide +kernel
theorem dL_between_13 : decode cL_between 13 = .ok (.astore 4, 2) := by decide +kernel
theorem dL_between_15 : decode cL_between 15 = .ok (.iconst 1, 1) := by decide +kernel
theorem dL_between_16 : decode cL_between 16 = .ok (.ireturn, 1) := by decide +kernel
theorem dL_between_17 : decode cL_between 17 = .ok (.iconst 0, 1) := by decide +kernel
theorem dL_between_18 : decode cL_between 18 = .ok (.ireturn, 1) := by decide +kernel
theorem dL_wayAt_0 : decode cL_wayAt 0 = .ok (.aload_n 2, 1) := by decide +kernel
theorem dL_wayAt_1 : decode cL_wayAt 1 = .ok (.iconst 0, 1) := by decide +kernel
theorem dL_wayAt_2 : decode cL_wayAt 2 = .ok (.aload_n 0, 1) := by decide +kernel
theorem dL_wayAt_3 : decode cL_wayAt 3 = .ok (.iload_n 1, 1) := by decide +kernel
theorem dL_wayAt_4 : decode cL_wayAt 4 = .ok (.invokevirtual 36, 3) := by decide +kernel
theorem dL_wayAt_7 : decode cL_wayAt 7 = .ok (.i2l, 1) := by decide +kernel
theorem dL_wayAt_8 : decode cL_wayAt 8 = .ok (.lastore, 1) := by decide +kernel
theorem dL_wayAt_9 : decode cL_wayAt 9 = .ok (.goto 6, 3) := by decide +kernel
theorem dL_wayAt_12 : decode cL_wayAt 12 = .ok (.astore_n 3, 1) := by decide +kernel
theorem dL_wayAt_13 : decode cL_wayAt 13 = .ok (.iconst 1, 1) := by decide +kernel
theorem dL_wayAt_14 : decode cL_wayAt 14 = .ok (.ireturn, 1) := by decide +kernel
theorem dL_wayAt_15 : decode cL_wayAt 15 = .ok (.iconst 0, 1) := by decide +kernel
theorem dL_wayAt_16 : decode cL_wayAt 16 = .ok (.ireturn, 1) := by decide +kernel
theorem dL_addCrossing_0 : decode cL_addCrossing 0 = .ok (.aload_n 1, 1) := by decide +kernel
theorem dL_addCrossing_1 : decode cL_addCrossing 1 = .ok (.iconst 0, 1) := by decide +kernel
theorem dL_addCrossing_2 : decode cL_addCrossing 2 = .ok (.aload_n 0, 1) := by decide +kernel
theorem dL_addCrossing_3 : decode cL_addCrossing 3 = .ok (.invokevirtual 39, 3) := by decide +kernel
theorem dL_addCrossing_6 : decode cL_addCrossing 6 = .ok (.i2l, 1) := by decide +kernel
theorem dL_addCrossing_7 : decode cL_addCrossing 7 = .ok (.lastore, 1) := by decide +kernel
theorem dL_addCrossing_8 : decode cL_addCrossing 8 = .ok (.goto 6, 3) := by decide +kernel
theorem dL_addCrossing_11 : decode cL_addCrossing 11 = .ok (.astore_n 2, 1) := by decide +kernel
theorem dL_addCrossing_12 : decode cL_addCrossing 12 = .ok (.iconst 1, 1) := by decide +kernel
theorem dL_addCrossing_13 : decode cL_addCrossing 13 = .ok (.ireturn, 1) := by decide +kernel
theorem dL_addCrossing_14 : decode cL_addCrossing 14 = .ok (.iconst 0, 1) := by decide +kernel
theorem dL_addCrossing_15 : decode cL_addCrossing 15 = .ok (.ireturn, 1) := by decide +kernel
theorem dL_addStreet_0 : decode cL_addStreet 0 = .ok (.aload 4, 2) := by decide +kernel
theorem dL_addStreet_2 : decode cL_addStreet 2 = .ok (.iconst 0, 1) := by decide +kernel
theorem dL_addStreet_3 : decode cL_addStreet 3 = .ok (.aload_n 0, 1) := by decide +kernel
theorem dL_addStreet_4 : decode cL_addStreet 4 = .ok (.iload_n 1, 1) := by decide +kernel
theorem dL_addStreet_5 : decode cL_addStreet 5 = .ok (.iload_n 2, 1) := by decide +kernel
theorem dL_addStreet_6 : decode cL_addStreet 6 = .ok (.iload_n 3, 1) := by decide +kernel
theorem dL_addStreet_7 : decode cL_addStreet 7 = .ok (.invokevirtual 42, 3) := by decide +kernel
theorem dL_addStreet_10 : decode cL_addStreet 10 = .ok (.i2l, 1) := by decide +kernel
theorem dL_addStreet_11 : decode cL_addStreet 11 = .ok (.lastore, 1) := by decide +kernel
theorem dL_addStreet_12 : decode cL_addStreet 12 = .ok (.goto 15, 3) := by decide +kernel
theorem dL_addStreet_15 : decode cL_addStreet 15 = .ok (.astore 5, 2) := by decide +kernel
theorem dL_addStreet_17 : decode cL_addStreet 17 = .ok (.iconst 1, 1) := by decide +kernel
theorem dL_addStreet_18 : decode cL_addStreet 18 = .ok (.ireturn, 1) := by decide +kernel
theorem dL_addStreet_19 : decode cL_addStreet 19 = .ok (.astore 5, 2) := by decide +kernel
theorem dL_addStreet_21 : decode cL_addStreet 21 = .ok (.iconst 2, 1) := by decide +kernel
theorem dL_addStreet_22 : decode cL_addStreet 22 = .ok (.ireturn, 1) := by decide +kernel
theorem dL_addStreet_23 : decode cL_addStreet 23 = .ok (.astore 5, 2) := by decide +kernel
theorem dL_addStreet_25 : decode cL_addStreet 25 = .ok (.iconst 3, 1) := by decide +kernel
theorem dL_addStreet_26 : decode cL_addStreet 26 = .ok (.ireturn, 1) := by decide +kernel
theorem dL_addStreet_27 : decode cL_addStreet 27 = .ok (.iconst 0, 1) := by decide +kernel
theorem dL_addStreet_28 : decode cL_addStreet 28 = .ok (.ireturn, 1) := by decide +kernel
theorem dL_removeStreet_0 : decode cL_removeStreet 0 = .ok (.aload_n 2, 1) := by decide +kernel
theorem dL_removeStreet_1 : decode cL_removeStreet 1 = .ok (.iconst 0, 1) := by decide +kernel
theorem dL_removeStreet_2 : decode cL_removeStreet 2 = .ok (.aload_n 0, 1) := by decide +kernel
theorem dL_removeStreet_3 : decode cL_removeStreet 3 = .ok (.iload_n 1, 1) := by decide +kernel
theorem dL_removeStreet_4 : decode cL_removeStreet 4 = .ok (.invokevirtual 46, 3) := by decide +kernel
theorem dL_removeStreet_7 : decode cL_removeStreet 7 = .ok (.i2l, 1) := by decide +kernel
theorem dL_removeStreet_8 : decode cL_removeStreet 8 = .ok (.lastore, 1) := by decide +kernel
theorem dL_removeStreet_9 : decode cL_removeStreet 9 = .ok (.goto 6, 3) := by decide +kernel
theorem dL_removeStreet_12 : decode cL_removeStreet 12 = .ok (.astore_n 3, 1) := by decide +kernel
theorem dL_removeStreet_13 : decode cL_removeStreet 13 = .ok (.iconst 1, 1) := by decide +kernel
theorem dL_removeStreet_14 : decode cL_removeStreet 14 = .ok (.ireturn, 1) := by decide +kernel
theorem dL_removeStreet_15 : decode cL_removeStreet 15 = .ok (.iconst 0, 1) := by decide +kernel
theorem dL_removeStreet_16 : decode cL_removeStreet 16 = .ok (.ireturn, 1) := by decide +kernel
theorem dL_setLength_0 : decode cL_setLength 0 = .ok (.aload_n 3, 1) := by decide +kernel
theorem dL_setLength_1 : decode cL_setLength 1 = .ok (.iconst 0, 1) := by decide +kernel
theorem dL_setLength_2 : decode cL_setLength 2 = .ok (.aload_n 0, 1) := by decide +kernel
theorem dL_setLength_3 : decode cL_setLength 3 = .ok (.iload_n 1, 1) := by decide +kernel
theorem dL_setLength_4 : decode cL_setLength 4 = .ok (.iload_n 2, 1) := by decide +kernel
theorem dL_setLength_5 : decode cL_setLength 5 = .ok (.invokevirtual 49, 3) := by decide +kernel
theorem dL_setLength_8 : decode cL_setLength 8 = .ok (.i2l, 1) := by decide +kernel
theorem dL_setLength_9 : decode cL_setLength 9 = .ok (.lastore, 1) := by decide +kernel
theorem dL_setLength_10 : decode cL_setLength 10 = .ok (.goto 11, 3) := by decide +kernel
theorem dL_setLength_13 : decode cL_setLength 13 = .ok (.astore 4, 2) := by decide +kernel
theorem dL_setLength_15 : decode cL_setLength 15 = .ok (.iconst 1, 1) := by decide +kernel
theorem dL_setLength_16 : decode cL_setLength 16 = .ok (.ireturn, 1) := by decide +kernel
theorem dL_setLength_17 : decode cL_setLength 17 = .ok (.astore 4, 2) := by decide +kernel
theorem dL_setLength_19 : decode cL_setLength 19 = .ok (.iconst 2, 1) := by decide +kernel
theorem dL_setLength_20 : decode cL_setLength 20 = .ok (.ireturn, 1) := by decide +kernel
theorem dL_setLength_21 : decode cL_setLength 21 = .ok (.iconst 0, 1) := by decide +kernel
theorem dL_setLength_22 : decode cL_setLength 22 = .ok (.ireturn, 1) := by decide +kernel
theorem dL_close_0 : decode cL_close 0 = .ok (.aload_n 3, 1) := by decide +kernel
theorem dL_close_1 : decode cL_close 1 = .ok (.iconst 0, 1) := by decide +kernel
theorem dL_close_2 : decode cL_close 2 = .ok (.aload_n 0, 1) := by decide +kernel
theorem dL_close_3 : decode cL_close 3 = .ok (.iload_n 1, 1) := by decide +kernel
theorem dL_close_4 : decode cL_close 4 = .ok (.iload_n 2, 1) := by decide +kernel
theorem dL_close_5 : decode cL_close 5 = .ok (.invokevirtual 52, 3) := by decide +kernel
theorem dL_close_8 : decode cL_close 8 = .ok (.i2l, 1) := by decide +kernel
theorem dL_close_9 : decode cL_close 9 = .ok (.lastore, 1) := by decide +kernel
theorem dL_close_10 : decode cL_close 10 = .ok (.goto 7, 3) := by decide +kernel
theorem dL_close_13 : decode cL_close 13 = .ok (.astore 4, 2) := by decide +kernel
theorem dL_close_15 : decode cL_close 15 = .ok (.iconst 1, 1) := by decide +kernel
theorem dL_close_16 : decode cL_close 16 = .ok (.ireturn, 1) := by decide +kernel
theorem dL_close_17 : decode cL_close 17 = .ok (.iconst 0, 1) := by decide +kernel
theorem dL_close_18 : decode cL_close 18 = .ok (.ireturn, 1) := by decide +kernel
theorem dL_setEnds_0 : decode cL_setEnds 0 = .ok (.aload_n 3, 1) := by decide +kernel
theorem dL_setEnds_1 : decode cL_setEnds 1 = .ok (.iconst 0, 1) := by decide +kernel
theorem dL_setEnds_2 : decode cL_setEnds 2 = .ok (.aload_n 0, 1) := by decide +kernel
theorem dL_setEnds_3 : decode cL_setEnds 3 = .ok (.iload_n 1, 1) := by decide +kernel
