theorem dX7_scriptCommandOnTrial_15 : decode cX7_scriptCommandOnTrial 15 = .ok (.irem, 1) := by decide +kernel
theorem dX7_scriptCommandOnTrial_16 : decode cX7_scriptCommandOnTrial 16 = .ok (.istore_n 3, 1) := by decide +kernel
theorem dX7_scriptCommandOnTrial_17 : decode cX7_scriptCommandOnTrial 17 = .ok (.iload_n 1, 1) := by decide +kernel
theorem dX7_scriptCommandOnTrial_18 : decode cX7_scriptCommandOnTrial 18 = .ok (.bipush 100, 2) := by decide +kernel
theorem dX7_scriptCommandOnTrial_20 : decode cX7_scriptCommandOnTrial 20 = .ok (.idiv, 1) := by decide +kernel
theorem dX7_scriptCommandOnTrial_21 : decode cX7_scriptCommandOnTrial 21 = .ok (.bipush 100, 2) := by decide +kernel
theorem dX7_scriptCommandOnTrial_23 : decode cX7_scriptCommandOnTrial 23 = .ok (.irem, 1) := by decide +kernel
theorem dX7_scriptCommandOnTrial_24 : decode cX7_scriptCommandOnTrial 24 = .ok (.istore 4, 2) := by decide +kernel
theorem dX7_scriptCommandOnTrial_26 : decode cX7_scriptCommandOnTrial 26 = .ok (.iload_n 1, 1) := by decide +kernel
theorem dX7_scriptCommandOnTrial_27 : decode cX7_scriptCommandOnTrial 27 = .ok (.bipush 100, 2) := by decide +kernel
theorem dX7_scriptCommandOnTrial_29 : decode cX7_scriptCommandOnTrial 29 = .ok (.irem, 1) := by decide +kernel
theorem dX7_scriptCommandOnTrial_30 : decode cX7_scriptCommandOnTrial 30 = .ok (.istore 5, 2) := by decide +kernel
theorem dX7_scriptCommandOnTrial_32 : decode cX7_scriptCommandOnTrial 32 = .ok (.iload_n 1, 1) := by decide +kernel
theorem dX7_scriptCommandOnTrial_33 : decode cX7_scriptCommandOnTrial 33 = .ok (.sipush 10000, 3) := by decide +kernel
theorem dX7_scriptCommandOnTrial_36 : decode cX7_scriptCommandOnTrial 36 = .ok (.idiv, 1) := by decide +kernel
theorem dX7_scriptCommandOnTrial_37 : decode cX7_scriptCommandOnTrial 37 = .ok (.tableswitch 275 1 9 #[51, 71, 94, 114, 156, 179, 208, 228, 255], 51) := by decide +kernel
theorem dX7_scriptCommandOnTrial_88 : decode cX7_scriptCommandOnTrial 88 = .ok (.aload_n 0, 1) := by decide +kernel
theorem dX7_scriptCommandOnTrial_89 : decode cX7_scriptCommandOnTrial 89 = .ok (.getfield 37, 3) := by decide +kernel
theorem dX7_scriptCommandOnTrial_92 : decode cX7_scriptCommandOnTrial 92 = .ok (.iload_n 2, 1) := by decide +kernel
theorem dX7_scriptCommandOnTrial_93 : decode cX7_scriptCommandOnTrial 93 = .ok (.iload_n 3, 1) := by decide +kernel
theorem dX7_scriptCommandOnTrial_94 : decode cX7_scriptCommandOnTrial 94 = .ok (.iload 5, 2) := by decide +kernel
theorem dX7_scriptCommandOnTrial_96 : decode cX7_scriptCommandOnTrial 96 = .ok (.invokevirtual 194, 3) := by decide +kernel
theorem dX7_scriptCommandOnTrial_99 : decode cX7_scriptCommandOnTrial 99 = .ok (.ifCond .ne 7, 3) := by decide +kernel
theorem dX7_scriptCommandOnTrial_102 : decode cX7_scriptCommandOnTrial 102 = .ok (.iconst 1, 1) := by decide +kernel
theorem dX7_scriptCommandOnTrial_103 : decode cX7_scriptCommandOnTrial 103 = .ok (.goto 4, 3) := by decide +kernel
theorem dX7_scriptCommandOnTrial_106 : decode cX7_scriptCommandOnTrial 106 = .ok (.iconst 0, 1) := by decide +kernel
theorem dX7_scriptCommandOnTrial_107 : decode cX7_scriptCommandOnTrial 107 = .ok (.ireturn, 1) := by decide +kernel
theorem dX7_scriptCommandOnTrial_108 : decode cX7_scriptCommandOnTrial 108 = .ok (.iload 5, 2) := by decide +kernel
theorem dX7_scriptCommandOnTrial_110 : decode cX7_scriptCommandOnTrial 110 = .ok (.ifCond .ne 19, 3) := by decide +kernel
theorem dX7_scriptCommandOnTrial_113 : decode cX7_scriptCommandOnTrial 113 = .ok (.aload_n 0, 1) := by decide +kernel
theorem dX7_scriptCommandOnTrial_114 : decode cX7_scriptCommandOnTrial 114 = .ok (.getfield 37, 3) := by decide +kernel
theorem dX7_scriptCommandOnTrial_117 : decode cX7_scriptCommandOnTrial 117 = .ok (.iload 4, 2) := by decide +kernel
theorem dX7_scriptCommandOnTrial_119 : decode cX7_scriptCommandOnTrial 119 = .ok (.invokevirtual 198, 3) := by decide +kernel
theorem dX7_scriptCommandOnTrial_122 : decode cX7_scriptCommandOnTrial 122 = .ok (.ifCond .ne 7, 3) := by decide +kernel
theorem dX7_scriptCommandOnTrial_125 : decode cX7_scriptCommandOnTrial 125 = .ok (.iconst 1, 1) := by decide +kernel
theorem dX7_scriptCommandOnTrial_126 : decode cX7_scriptCommandOnTrial 126 = .ok (.goto 4, 3) := by decide +kernel
theorem dX7_scriptCommandOnTrial_129 : decode cX7_scriptCommandOnTrial 129 = .ok (.iconst 0, 1) := by decide +kernel
theorem dX7_scriptCommandOnTrial_130 : decode cX7_scriptCommandOnTrial 130 = .ok (.ireturn, 1) := by decide +kernel
theorem dX7_scriptCommandOnTrial_131 : decode cX7_scriptCommandOnTrial 131 = .ok (.aload_n 0, 1) := by decide +kernel
theorem dX7_scriptCommandOnTrial_132 : decode cX7_scriptCommandOnTrial 132 = .ok (.getfield 37, 3) := by decide +kernel
theorem dX7_scriptCommandOnTrial_135 : decode cX7_scriptCommandOnTrial 135 = .ok (.iload 4, 2) := by decide +kernel
theorem dX7_scriptCommandOnTrial_137 : decode cX7_scriptCommandOnTrial 137 = .ok (.iload 5, 2) := by decide +kernel
theorem dX7_scriptCommandOnTrial_139 : decode cX7_scriptCommandOnTrial 139 = .ok (.invokevirtual 201, 3) := by decide +kernel
theorem dX7_scriptCommandOnTrial_142 : decode cX7_scriptCommandOnTrial 142 = .ok (.ifCond .ne 7, 3) := by decide +kernel
theorem dX7_scriptCommandOnTrial_145 : decode cX7_scriptCommandOnTrial 145 = .ok (.iconst 1, 1) := by decide +kernel
theorem dX7_scriptCommandOnTrial_146 : decode cX7_scriptCommandOnTrial 146 = .ok (.goto 4, 3) := by decide +kernel
theorem dX7_scriptCommandOnTrial_149 : decode cX7_scriptCommandOnTrial 149 = .ok (.iconst 0, 1) := by decide +kernel
theorem dX7_scriptCommandOnTrial_150 : decode cX7_scriptCommandOnTrial 150 = .ok (.ireturn, 1) := by decide +kernel
theorem dX7_scriptCommandOnTrial_151 : decode cX7_scriptCommandOnTrial 151 = .ok (.iload 5, 2) := by decide +kernel
theorem dX7_scriptCommandOnTrial_153 : decode cX7_scriptCommandOnTrial 153 = .ok (.ifCond .eq 10, 3) := by decide +kernel
theorem dX7_scriptCommandOnTrial_156 : decode cX7_scriptCommandOnTrial 156 = .ok (.iload 5, 2) := by decide +kernel
theorem dX7_scriptCommandOnTrial_158 : decode cX7_scriptCommandOnTrial 158 = .ok (.bipush 10, 2) := by decide +kernel
theorem dX7_scriptCommandOnTrial_160 : decode cX7_scriptCommandOnTrial 160 = .ok (.if_icmp .ne 31, 3) := by decide +kernel
theorem dX7_scriptCommandOnTrial_163 : decode cX7_scriptCommandOnTrial 163 = .ok (.aload_n 0, 1) := by decide +kernel
theorem dX7_scriptCommandOnTrial_164 : decode cX7_scriptCommandOnTrial 164 = .ok (.getfield 37, 3) := by decide +kernel
theorem dX7_scriptCommandOnTrial_167 : decode cX7_scriptCommandOnTrial 167 = .ok (.iload 4, 2) := by decide +kernel
theorem dX7_scriptCommandOnTrial_169 : decode cX7_scriptCommandOnTrial 169 = .ok (.iload 5, 2) := by decide +kernel
theorem dX7_scriptCommandOnTrial_171 : decode cX7_scriptCommandOnTrial 171 = .ok (.bipush 10, 2) := by decide +kernel
theorem dX7_scriptCommandOnTrial_173 : decode cX7_scriptCommandOnTrial 173 = .ok (.if_icmp .ne 7, 3) := by decide +kernel
theorem dX7_scriptCommandOnTrial_176 : decode cX7_scriptCommandOnTrial 176 = .ok (.iconst 1, 1) := by decide +kernel
theorem dX7_scriptCommandOnTrial_177 : decode cX7_scriptCommandOnTrial 177 = .ok (.goto 4, 3) := by decide +kernel
theorem dX7_scriptCommandOnTrial_180 : decode cX7_scriptCommandOnTrial 180 = .ok (.iconst 0, 1) := by decide +kernel
theorem dX7_scriptCommandOnTrial_181 : decode cX7_scriptCommandOnTrial 181 = .ok (.invokevirtual 207, 3) := by decide +kernel
theorem dX7_scriptCommandOnTrial_184 : decode cX7_scriptCommandOnTrial 184 = .ok (.ifCond .ne 7, 3) := by decide +kernel
theorem dX7_scriptCommandOnTrial_187 : decode cX7_scriptCommandOnTrial 187 = .ok (.iconst 1, 1) := by decide +kernel
theorem dX7_scriptCommandOnTrial_188 : decode cX7_scriptCommandOnTrial 188 = .ok (.goto 4, 3) := by decide +kernel
theorem dX7_scriptCommandOnTrial_191 : decode cX7_scriptCommandOnTrial 191 = .ok (.iconst 0, 1) := by decide +kernel
theorem dX7_scriptCommandOnTrial_192 : decode cX7_scriptCommandOnTrial 192 = .ok (.ireturn, 1) := by decide +kernel
theorem dX7_scriptCommandOnTrial_193 : decode cX7_scriptCommandOnTrial 193 = .ok (.iload 5, 2) := by decide +kernel
theorem dX7_scriptCommandOnTrial_195 : decode cX7_scriptCommandOnTrial 195 = .ok (.ifCond .ne 19, 3) := by decide +kernel
theorem dX7_scriptCommandOnTrial_198 : decode cX7_scriptCommandOnTrial 198 = .ok (.aload_n 0, 1) := by decide +kernel
theorem dX7_scriptCommandOnTrial_199 : decode cX7_scriptCommandOnTrial 199 = .ok (.getfield 37, 3) := by decide +kernel
theorem dX7_scriptCommandOnTrial_202 : decode cX7_scriptCommandOnTrial 202 = .ok (.iload_n 2, 1) := by decide +kernel
theorem dX7_scriptCommandOnTrial_203 : decode cX7_scriptCommandOnTrial 203 = .ok (.iload_n 3, 1) := by decide +kernel
theorem dX7_scriptCommandOnTrial_204 : decode cX7_scriptCommandOnTrial 204 = .ok (.invokevirtual 211, 3) := by decide +kernel
theorem dX7_scriptCommandOnTrial_207 : decode cX7_scriptCommandOnTrial 207 = .ok (.ifCond .ne 7, 3) := by decide +kernel
theorem dX7_scriptCommandOnTrial_210 : decode cX7_scriptCommandOnTrial 210 = .ok (.iconst 1, 1) := by decide +kernel
theorem dX7_scriptCommandOnTrial_211 : decode cX7_scriptCommandOnTrial 211 = .ok (.goto 4, 3) := by decide +kernel
theorem dX7_scriptCommandOnTrial_214 : decode cX7_scriptCommandOnTrial 214 = .ok (.iconst 0, 1) := by decide +kernel
theorem dX7_scriptCommandOnTrial_215 : decode cX7_scriptCommandOnTrial 215 = .ok (.ireturn, 1) := by decide +kernel
theorem dX7_scriptCommandOnTrial_216 : decode cX7_scriptCommandOnTrial 216 = .ok (.iload_n 2, 1) := by decide +kernel
theorem dX7_scriptCommandOnTrial_217 : decode cX7_scriptCommandOnTrial 217 = .ok (.ifCond .ne 26, 3) := by decide +kernel
theorem dX7_scriptCommandOnTrial_220 : decode cX7_scriptCommandOnTrial 220 = .ok (.aload_n 0, 1) := by decide +kernel
theorem dX7_scriptCommandOnTrial_221 : decode cX7_scriptCommandOnTrial 221 = .ok (.aload_n 0, 1) := by decide +kernel
theorem dX7_scriptCommandOnTrial_222 : decode cX7_scriptCommandOnTrial 222 = .ok (.getfield 37, 3) := by decide +kernel
theorem dX7_scriptCommandOnTrial_225 : decode cX7_scriptCommandOnTrial 225 = .ok (.invokevirtual 119, 3) := by decide +kernel
theorem dX7_scriptCommandOnTrial_228 : decode cX7_scriptCommandOnTrial 228 = .ok (.iload_n 1, 1) := by decide +kernel
theorem dX7_scriptCommandOnTrial_229 : decode cX7_scriptCommandOnTrial 229 = .ok (.sipush 1000, 3) := by decide +kernel
theorem dX7_scriptCommandOnTrial_232 : decode cX7_scriptCommandOnTrial 232 = .ok (.irem, 1) := by decide +kernel
theorem dX7_scriptCommandOnTrial_233 : decode cX7_scriptCommandOnTrial 233 = .ok (.invokestatic 332, 3) := by decide +kernel
theorem dX7_scriptCommandOnTrial_236 : decode cX7_scriptCommandOnTrial 236 = .ok (.ifCond .eq 7, 3) := by decide +kernel
theorem dX7_scriptCommandOnTrial_239 : decode cX7_scriptCommandOnTrial 239 = .ok (.iconst 1, 1) := by decide +kernel
theorem dX7_scriptCommandOnTrial_240 : decode cX7_scriptCommandOnTrial 240 = .ok (.goto 4, 3) := by decide +kernel
theorem dX7_scriptCommandOnTrial_243 : decode cX7_scriptCommandOnTrial 243 = .ok (.iconst 0, 1) := by decide +kernel
theorem dX7_scriptCommandOnTrial_244 : decode cX7_scriptCommandOnTrial 244 = .ok (.ireturn, 1) := by decide +kernel
theorem dX7_scriptCommandOnTrial_245 : decode cX7_scriptCommandOnTrial 245 = .ok (.iload 5, 2) := by decide +kernel
theorem dX7_scriptCommandOnTrial_247 : decode cX7_scriptCommandOnTrial 247 = .ok (.ifCond .ne 16, 3) := by decide +kernel
theorem dX7_scriptCommandOnTrial_250 : decode cX7_scriptCommandOnTrial 250 = .ok (.aload_n 0, 1) := by decide +kernel
theorem dX7_scriptCommandOnTrial_251 : decode cX7_scriptCommandOnTrial 251 = .ok (.iload 4, 2) := by decide +kernel
theorem dX7_scriptCommandOnTrial_253 : decode cX7_scriptCommandOnTrial 253 = .ok (.invokevirtual 317, 3) := by decide +kernel
theorem dX7_scriptCommandOnTrial_256 : decode cX7_scriptCommandOnTrial 256 = .ok (.ifCond .eq 7, 3) := by decide +kernel
theorem dX7_scriptCommandOnTrial_259 : decode cX7_scriptCommandOnTrial 259 = .ok (.iconst 1, 1) := by decide +kernel
theorem dX7_scriptCommandOnTrial_260 : decode cX7_scriptCommandOnTrial 260 = .ok (.goto 4, 3) := by decide +kernel
theorem dX7_scriptCommandOnTrial_263 : decode cX7_scriptCommandOnTrial 263 = .ok (.iconst 0, 1) := by decide +kernel
theorem dX7_scriptCommandOnTrial_264 : decode cX7_scriptCommandOnTrial 264 = .ok (.ireturn, 1) := by decide +kernel
theorem dX7_scriptCommandOnTrial_265 : decode cX7_scriptCommandOnTrial 265 = .ok (.iload 4, 2) := by decide +kernel
theorem dX7_scriptCommandOnTrial_267 : decode cX7_scriptCommandOnTrial 267 = .ok (.ifCond .ne 23, 3) := by decide +kernel
theorem dX7_scriptCommandOnTrial_270 : decode cX7_scriptCommandOnTrial 270 = .ok (.iload 5, 2) := by decide +kernel
theorem dX7_scriptCommandOnTrial_272 : decode cX7_scriptCommandOnTrial 272 = .ok (.bipush 10, 2) := by decide +kernel
theorem dX7_scriptCommandOnTrial_274 : decode cX7_scriptCommandOnTrial 274 = .ok (.if_icmp .ge 16, 3) := by decide +kernel
theorem dX7_scriptCommandOnTrial_277 : decode cX7_scriptCommandOnTrial 277 = .ok (.aload_n 0, 1) := by decide +kernel
theorem dX7_scriptCommandOnTrial_278 : decode cX7_scriptCommandOnTrial 278 = .ok (.iload 5, 2) := by decide +kernel
theorem dX7_scriptCommandOnTrial_280 : decode cX7_scriptCommandOnTrial 280 = .ok (.invokevirtual 335, 3) := by decide +kernel
theorem dX7_scriptCommandOnTrial_283 : decode cX7_scriptCommandOnTrial 283 = .ok (.ifCond .eq 7, 3) := by decide +kernel
theorem dX7_scriptCommandOnTrial_286 : decode cX7_scriptCommandOnTrial 286 = .ok (.iconst 1, 1) := by decide +kernel
theorem dX7_scriptCommandOnTrial_287 : decode cX7_scriptCommandOnTrial 287 = .ok (.goto 4, 3) := by decide +kernel
theorem dX7_scriptCommandOnTrial_290 : decode cX7_scriptCommandOnTrial 290 = .ok (.iconst 0, 1) := by decide +kernel
theorem dX7_scriptCommandOnTrial_291 : decode cX7_scriptCommandOnTrial 291 = .ok (.ireturn, 1) := by decide +kernel
theorem dX7_scriptCommandOnTrial_292 : decode cX7_scriptCommandOnTrial 292 = .ok (.iload_n 3, 1) := by decide +kernel
theorem dX7_scriptCommandOnTrial_293 : decode cX7_scriptCommandOnTrial 293 = .ok (.ifCond .ne 17, 3) := by decide +kernel
theorem dX7_scriptCommandOnTrial_296 : decode cX7_scriptCommandOnTrial 296 = .ok (.aload_n 0, 1) := by decide +kernel
theorem dX7_scriptCommandOnTrial_297 : decode cX7_scriptCommandOnTrial 297 = .ok (.iload_n 2, 1) := by decide +kernel
theorem dX7_scriptCommandOnTrial_298 : decode cX7_scriptCommandOnTrial 298 = .ok (.iload 5, 2) := by decide +kernel
theorem dX7_scriptCommandOnTrial_300 : decode cX7_scriptCommandOnTrial 300 = .ok (.invokevirtual 338, 3) := by decide +kernel
theorem dX7_scriptCommandOnTrial_303 : decode cX7_scriptCommandOnTrial 303 = .ok (.ifCond .eq 7, 3) := by decide +kernel
theorem dX7_scriptCommandOnTrial_306 : decode cX7_scriptCommandOnTrial 306 = .ok (.iconst 1, 1) := by decide +kernel
theorem dX7_scriptCommandOnTrial_307 : decode cX7_scriptCommandOnTrial 307 = .ok (.goto 4, 3) := by decide +kernel
theorem dX7_scriptCommandOnTrial_310 : decode cX7_scriptCommandOnTrial 310 = .ok (.iconst 0, 1) := by decide +kernel
theorem dX7_scriptCommandOnTrial_311 : decode cX7_scriptCommandOnTrial 311 = .ok (.ireturn, 1) := by decide +kernel
theorem dX7_scriptCommandOnTrial_312 : decode cX7_scriptCommandOnTrial 312 = .ok (.iconst 0, 1) := by decide +kernel
theorem dX7_scriptCommandOnTrial_313 : decode cX7_scriptCommandOnTrial 313 = .ok (.ireturn, 1) := by decide +kernel
theorem dX7_isAtMost_0 : decode cX7_isAtMost 0 = .ok (.iload_n 0, 1) := by decide +kernel
theorem dX7_isAtMost_1 : decode cX7_isAtMost 1 = .ok (.sipush (-999), 3) := by decide +kernel
theorem dX7_isAtMost_4 : decode cX7_isAtMost 4 = .ok (.if_icmp .eq 12, 3) := by decide +kernel
theorem dX7_isAtMost_7 : decode cX7_isAtMost 7 = .ok (.iload_n 0, 1) := by decide +kernel
theorem dX7_isAtMost_8 : decode cX7_isAtMost 8 = .ok (.iload_n 1, 1) := by decide +kernel
theorem dX7_isAtMost_9 : decode cX7_isAtMost 9 = .ok (.if_icmp .gt 7, 3) := by decide +kernel
theorem dX7_isAtMost_12 : decode cX7_isAtMost 12 = .ok (.iconst 1, 1) := by decide +kernel
theorem dX7_isAtMost_13 : decode cX7_isAtMost 13 = .ok (.goto 4, 3) := by decide +kernel
theorem dX7_isAtMost_16 : decode cX7_isAtMost 16 = .ok (.iconst 0, 1) := by decide +kernel
theorem dX7_isAtMost_17 : decode cX7_isAtMost 17 = .ok (.ireturn, 1) := by decide +kernel
theorem dX7_isOnBestWayOfTrial_0 : decode cX7_isOnBestWayOfTrial 0 = .ok (.aload_n 0, 1) := by decide +kernel
theorem dX7_isOnBestWayOfTrial_1 : decode cX7_isOnBestWayOfTrial 1 = .ok (.getfield 61, 3) := by decide +kernel
theorem dX7_isOnBestWayOfTrial_4 : decode cX7_isOnBestWayOfTrial 4 = .ok (.aload_n 0, 1) := by decide +kernel
theorem dX7_isOnBestWayOfTrial_5 : decode cX7_isOnBestWayOfTrial 5 = .ok (.getfield 37, 3) := by decide +kernel
theorem dX7_isOnBestWayOfTrial_8 : decode cX7_isOnBestWayOfTrial 8 = .ok (.invokevirtual 123, 3) := by decide +kernel
theorem dX7_isOnBestWayOfTrial_11 : decode cX7_isOnBestWayOfTrial 11 = .ok (.aload_n 0, 1) := by decide +kernel
theorem dX7_isOnBestWayOfTrial_12 : decode cX7_isOnBestWayOfTrial 12 = .ok (.getfield 37, 3) := by decide +kernel
theorem dX7_isOnBestWayOfTrial_15 : decode cX7_isOnBestWayOfTrial 15 = .ok (.iload_n 1, 1) := by decide +kernel
theorem dX7_isOnBestWayOfTrial_16 : decode cX7_isOnBestWayOfTrial 16 = .ok (.invokevirtual 301, 3) := by decide +kernel
theorem dX7_isOnBestWayOfTrial_19 : decode cX7_isOnBestWayOfTrial 19 = .ok (.ifCond .eq 22, 3) := by decide +kernel
theorem dX7_isOnBestWayOfTrial_22 : decode cX7_isOnBestWayOfTrial 22 = .ok (.aload_n 0, 1) := by decide +kernel
theorem dX7_isOnBestWayOfTrial_23 : decode cX7_isOnBestWayOfTrial 23 = .ok (.getfield 61, 3) := by decide +kernel
theorem dX7_isOnBestWayOfTrial_26 : decode cX7_isOnBestWayOfTrial 26 = .ok (.aload_n 0, 1) := by decide +kernel
theorem dX7_isOnBestWayOfTrial_27 : decode cX7_isOnBestWayOfTrial 27 = .ok (.getfield 37, 3) := by decide +kernel
theorem dX7_isOnBestWayOfTrial_30 : decode cX7_isOnBestWayOfTrial 30 = .ok (.iload_n 1, 1) := by decide +kernel
theorem dX7_isOnBestWayOfTrial_31 : decode cX7_isOnBestWayOfTrial 31 = .ok (.invokevirtual 150, 3) := by decide +kernel
theorem dX7_isOnBestWayOfTrial_34 : decode cX7_isOnBestWayOfTrial 34 = .ok (.ifCond .eq 7, 3) := by decide +kernel
theorem dX7_isOnBestWayOfTrial_37 : decode cX7_isOnBestWayOfTrial 37 = .ok (.iconst 1, 1) := by decide +kernel
theorem dX7_isOnBestWayOfTrial_38 : decode cX7_isOnBestWayOfTrial 38 = .ok (.goto 4, 3) := by decide +kernel
theorem dX7_isOnBestWayOfTrial_41 : decode cX7_isOnBestWayOfTrial 41 = .ok (.iconst 0, 1) := by decide +kernel
theorem dX7_isOnBestWayOfTrial_42 : decode cX7_isOnBestWayOfTrial 42 = .ok (.ireturn, 1) := by decide +kernel
theorem dX7_hasTrialWayOf_0 : decode cX7_hasTrialWayOf 0 = .ok (.aload_n 0, 1) := by decide +kernel
theorem dX7_hasTrialWayOf_1 : decode cX7_hasTrialWayOf 1 = .ok (.getfield 61, 3) := by decide +kernel
theorem dX7_hasTrialWayOf_4 : decode cX7_hasTrialWayOf 4 = .ok (.aload_n 0, 1) := by decide +kernel
theorem dX7_hasTrialWayOf_5 : decode cX7_hasTrialWayOf 5 = .ok (.getfield 37, 3) := by decide +kernel
theorem dX7_hasTrialWayOf_8 : decode cX7_hasTrialWayOf 8 = .ok (.invokevirtual 123, 3) := by decide +kernel
theorem dX7_hasTrialWayOf_11 : decode cX7_hasTrialWayOf 11 = .ok (.aload_n 0, 1) := by decide +kernel
theorem dX7_hasTrialWayOf_12 : decode cX7_hasTrialWayOf 12 = .ok (.getfield 61, 3) := by decide +kernel
theorem dX7_hasTrialWayOf_15 : decode cX7_hasTrialWayOf 15 = .ok (.invokevirtual 126, 3) := by decide +kernel
theorem dX7_hasTrialWayOf_18 : decode cX7_hasTrialWayOf 18 = .ok (.iload_n 1, 1) := by decide +kernel
theorem dX7_hasTrialWayOf_19 : decode cX7_hasTrialWayOf 19 = .ok (.invokestatic 332, 3) := by decide +kernel
theorem dX7_hasTrialWayOf_22 : decode cX7_hasTrialWayOf 22 = .ok (.ireturn, 1) := by decide +kernel
theorem dX7_isNearInTrial_0 : decode cX7_isNearInTrial 0 = .ok (.aload_n 0, 1) := by decide +kernel
theorem dX7_isNearInTrial_1 : decode cX7_isNearInTrial 1 = .ok (.getfield 61, 3) := by decide +kernel
theorem dX7_isNearInTrial_4 : decode cX7_isNearInTrial 4 = .ok (.aload_n 0, 1) := by decide +kernel
theorem dX7_isNearInTrial_5 : decode cX7_isNearInTrial 5 = .ok (.getfield 37, 3) := by decide +kernel
theorem dX7_isNearInTrial_8 : decode cX7_isNearInTrial 8 = .ok (.aload_n 0, 1) := by decide +kernel
theorem dX7_isNearInTrial_9 : decode cX7_isNearInTrial 9 = .ok (.getfield 37, 3) := by decide +kernel
theorem dX7_isNearInTrial_12 : decode cX7_isNearInTrial 12 = .ok (.getfield 113, 3) := by decide +kernel
theorem dX7_isNearInTrial_15 : decode cX7_isNearInTrial 15 = .ok (.invokevirtual 163, 3) := by decide +kernel
theorem dX7_isNearInTrial_18 : decode cX7_isNearInTrial 18 = .ok (.aload_n 0, 1) := by decide +kernel
theorem dX7_isNearInTrial_19 : decode cX7_isNearInTrial 19 = .ok (.getfield 37, 3) := by decide +kernel
theorem dX7_isNearInTrial_22 : decode cX7_isNearInTrial 22 = .ok (.iload_n 1, 1) := by decide +kernel
theorem dX7_isNearInTrial_23 : decode cX7_isNearInTrial 23 = .ok (.invokevirtual 306, 3) := by decide +kernel
theorem dX7_isNearInTrial_26 : decode cX7_isNearInTrial 26 = .ok (.ifCond .eq 22, 3) := by decide +kernel
theorem dX7_isNearInTrial_29 : decode cX7_isNearInTrial 29 = .ok (.aload_n 0, 1) := by decide +kernel
theorem dX7_isNearInTrial_30 : decode cX7_isNearInTrial 30 = .ok (.getfield 61, 3) := by decide +kernel
theorem dX7_isNearInTrial_33 : decode cX7_isNearInTrial 33 = .ok (.iload_n 1, 1) := by decide +kernel
theorem dX7_isNearInTrial_34 : decode cX7_isNearInTrial 34 = .ok (.invokevirtual 167, 3) := by decide +kernel
theorem dX7_isNearInTrial_37 : decode cX7_isNearInTrial 37 = .ok (.iload_n 2, 1) := by decide +kernel
theorem dX7_isNearInTrial_38 : decode cX7_isNearInTrial 38 = .ok (.invokestatic 332, 3) := by decide +kernel
theorem dX7_isNearInTrial_41 : decode cX7_isNearInTrial 41 = .ok (.ifCond .eq 7, 3) := by decide +kernel
theorem dX7_isNearInTrial_44 : decode cX7_isNearInTrial 44 = .ok (.iconst 1, 1) := by decide +kernel
theorem dX7_isNearInTrial_45 : decode cX7_isNearInTrial 45 = .ok (.goto 4, 3) := by decide +kernel
theorem dX7_isNearInTrial_48 : decode cX7_isNearInTrial 48 = .ok (.iconst 0, 1) := by decide +kernel
theorem dX7_isNearInTrial_49 : decode cX7_isNearInTrial 49 = .ok (.ireturn, 1) := by decide +kernel
theorem dX8_init_0 : decode cX8_init 0 = .ok (.aload_n 0, 1) := by decide +kernel
theorem dX8_init_1 : decode cX8_init 1 = .ok (.invokespecial 1, 3) := by decide +kernel
theorem dX8_init_4 : decode cX8_init 4 = .ok (.aload_n 0, 1) := by decide +kernel
theorem dX8_init_5 : decode cX8_init 5 = .ok (.sipush 140, 3) := by decide +kernel
theorem dX8_init_8 : decode cX8_init 8 = .ok (.newarray .int, 2) := by decide +kernel
theorem dX8_init_10 : decode cX8_init 10 = .ok (.putfield 7, 3) := by decide +kernel
theorem dX8_init_13 : decode cX8_init 13 = .ok (.aload_n 0, 1) := by decide +kernel
theorem dX8_init_14 : decode cX8_init 14 = .ok (.bipush 84, 2) := by decide +kernel
theorem dX8_init_16 : decode cX8_init 16 = .ok (.newarray .int, 2) := by decide +kernel
theorem dX8_init_18 : decode cX8_init 18 = .ok (.putfield 13, 3) := by decide +kernel
theorem dX8_init_21 : decode cX8_init 21 = .ok (.aload_n 0, 1) := by decide +kernel
theorem dX8_init_22 : decode cX8_init 22 = .ok (.bipush 84, 2) := by decide +kernel
theorem dX8_init_24 : decode cX8_init 24 = .ok (.newarray .int, 2) := by decide +kernel
theorem dX8_init_26 : decode cX8_init 26 = .ok (.putfield 16, 3) := by decide +kernel
theorem dX8_init_29 : decode cX8_init 29 = .ok (.aload_n 0, 1) := by decide +kernel
theorem dX8_init_30 : decode cX8_init 30 = .ok (.bipush 84, 2) := by decide +kernel
theorem dX8_init_32 : decode cX8_init 32 = .ok (.newarray .int, 2) := by decide +kernel
theorem dX8_init_34 : decode cX8_init 34 = .ok (.putfield 19, 3) := by decide +kernel
theorem dX8_init_37 : decode cX8_init 37 = .ok (.aload_n 0, 1) := by decide +kernel
theorem dX8_init_38 : decode cX8_init 38 = .ok (.sipush 1176, 3) := by decide +kernel
theorem dX8_init_41 : decode cX8_init 41 = .ok (.newarray .int, 2) := by decide +kernel
theorem dX8_init_43 : decode cX8_init 43 = .ok (.putfield 22, 3) := by decide +kernel
theorem dX8_init_46 : decode cX8_init 46 = .ok (.aload_n 0, 1) := by decide +kernel
theorem dX8_init_47 : decode cX8_init 47 = .ok (.sipush 168, 3) := by decide +kernel
theorem dX8_init_50 : decode cX8_init 50 = .ok (.newarray .int, 2) := by decide +kernel
theorem dX8_init_52 : decode cX8_init 52 = .ok (.putfield 25, 3) := by decide +kernel
theorem dX8_init_55 : decode cX8_init 55 = .ok (.aload_n 0, 1) := by decide +kernel
theorem dX8_init_56 : decode cX8_init 56 = .ok (.iconst 2, 1) := by decide +kernel
theorem dX8_init_57 : decode cX8_init 57 = .ok (.newarray .boolean, 2) := by decide +kernel
theorem dX8_init_59 : decode cX8_init 59 = .ok (.putfield 28, 3) := by decide +kernel
theorem dX8_init_62 : decode cX8_init 62 = .ok (.aload_n 0, 1) := by decide +kernel
theorem dX8_init_63 : decode cX8_init 63 = .ok (.bipush 25, 2) := by decide +kernel
theorem dX8_init_65 : decode cX8_init 65 = .ok (.newarray .int, 2) := by decide +kernel
theorem dX8_init_67 : decode cX8_init 67 = .ok (.putfield 32, 3) := by decide +kernel
theorem dX8_init_70 : decode cX8_init 70 = .ok (.aload_n 0, 1) := by decide +kernel
theorem dX8_init_71 : decode cX8_init 71 = .ok (.bipush 81, 2) := by decide +kernel
theorem dX8_init_73 : decode cX8_init 73 = .ok (.newarray .int, 2) := by decide +kernel
theorem dX8_init_75 : decode cX8_init 75 = .ok (.putfield 35, 3) := by decide +kernel
theorem dX8_init_78 : decode cX8_init 78 = .ok (.aload_n 0, 1) := by decide +kernel
theorem dX8_init_79 : decode cX8_init 79 = .ok (.bipush 9, 2) := by decide +kernel
theorem dX8_init_81 : decode cX8_init 81 = .ok (.newarray .int, 2) := by decide +kernel
theorem dX8_init_83 : decode cX8_init 83 = .ok (.putfield 38, 3) := by decide +kernel
theorem dX8_init_86 : decode cX8_init 86 = .ok (.aload_n 0, 1) := by decide +kernel
theorem dX8_init_87 : decode cX8_init 87 = .ok (.bipush 9, 2) := by decide +kernel
theorem dX8_init_89 : decode cX8_init 89 = .ok (.newarray .int, 2) := by decide +kernel
theorem dX8_init_91 : decode cX8_init 91 = .ok (.putfield 41, 3) := by decide +kernel
theorem dX8_init_94 : decode cX8_init 94 = .ok (.aload_n 0, 1) := by decide +kernel
theorem dX8_init_95 : decode cX8_init 95 = .ok (.bipush 10, 2) := by decide +kernel
theorem dX8_init_97 : decode cX8_init 97 = .ok (.newarray .int, 2) := by decide +kernel
theorem dX8_init_99 : decode cX8_init 99 = .ok (.putfield 44, 3) := by decide +kernel
theorem dX8_init_102 : decode cX8_init 102 = .ok (.aload_n 0, 1) := by decide +kernel
theorem dX8_init_103 : decode cX8_init 103 = .ok (.bipush 10, 2) := by decide +kernel
theorem dX8_init_105 : decode cX8_init 105 = .ok (.newarray .int, 2) := by decide +kernel
theorem dX8_init_107 : decode cX8_init 107 = .ok (.putfield 47, 3) := by decide +kernel
theorem dX8_init_110 : decode cX8_init 110 = .ok (.aload_n 0, 1) := by decide +kernel
theorem dX8_init_111 : decode cX8_init 111 = .ok (.bipush 9, 2) := by decide +kernel
theorem dX8_init_113 : decode cX8_init 113 = .ok (.newarray .boolean, 2) := by decide +kernel
theorem dX8_init_115 : decode cX8_init 115 = .ok (.putfield 50, 3) := by decide +kernel
theorem dX8_init_118 : decode cX8_init 118 = .ok (.aload_n 0, 1) := by decide +kernel
theorem dX8_init_119 : decode cX8_init 119 = .ok (.getfield 16, 3) := by decide +kernel
theorem dX8_init_122 : decode cX8_init 122 = .ok (.iconst 2, 1) := by decide +kernel
theorem dX8_init_123 : decode cX8_init 123 = .ok (.invokestatic 53, 3) := by decide +kernel
theorem dX8_init_126 : decode cX8_init 126 = .ok (.aload_n 0, 1) := by decide +kernel
theorem dX8_init_127 : decode cX8_init 127 = .ok (.getfield 16, 3) := by decide +kernel
theorem dX8_init_130 : decode cX8_init 130 = .ok (.iconst 3, 1) := by decide +kernel
theorem dX8_init_131 : decode cX8_init 131 = .ok (.iconst 1, 1) := by decide +kernel
theorem dX8_init_132 : decode cX8_init 132 = .ok (.iastore, 1) := by decide +kernel
theorem dX8_init_133 : decode cX8_init 133 = .ok (.aload_n 0, 1) := by decide +kernel
theorem dX8_init_134 : decode cX8_init 134 = .ok (.iconst 0, 1) := by decide +kernel
theorem dX8_init_135 : decode cX8_init 135 = .ok (.bipush 111, 2) := by decide +kernel
theorem dX8_init_137 : decode cX8_init 137 = .ok (.bipush 112, 2) := by decide +kernel
theorem dX8_init_139 : decode cX8_init 139 = .ok (.bipush 101, 2) := by decide +kernel
theorem dX8_init_141 : decode cX8_init 141 = .ok (.bipush 110, 2) := by decide +kernel
theorem dX8_init_143 : decode cX8_init 143 = .ok (.iconst 0, 1) := by decide +kernel
theorem dX8_init_144 : decode cX8_init 144 = .ok (.invokevirtual 57, 3) := by decide +kernel
theorem dX8_init_147 : decode cX8_init 147 = .ok (.aload_n 0, 1) := by decide +kernel
theorem dX8_init_148 : decode cX8_init 148 = .ok (.iconst 5, 1) := by decide +kernel
theorem dX8_init_149 : decode cX8_init 149 = .ok (.bipush 99, 2) := by decide +kernel
theorem dX8_init_151 : decode cX8_init 151 = .ok (.bipush 108, 2) := by decide +kernel
theorem dX8_init_153 : decode cX8_init 153 = .ok (.bipush 111, 2) := by decide +kernel
theorem dX8_init_155 : decode cX8_init 155 = .ok (.bipush 115, 2) := by decide +kernel
theorem dX8_init_157 : decode cX8_init 157 = .ok (.bipush 101, 2) := by decide +kernel
theorem dX8_init_159 : decode cX8_init 159 = .ok (.invokevirtual 57, 3) := by decide +kernel
theorem dX8_init_162 : decode cX8_init 162 = .ok (.aload_n 0, 1) := by decide +kernel
theorem dX8_init_163 : decode cX8_init 163 = .ok (.bipush 10, 2) := by decide +kernel
theorem dX8_init_165 : decode cX8_init 165 = .ok (.bipush 108, 2) := by decide +kernel
theorem dX8_init_167 : decode cX8_init 167 = .ok (.bipush 111, 2) := by decide +kernel
theorem dX8_init_169 : decode cX8_init 169 = .ok (.bipush 110, 2) := by decide +kernel
theorem dX8_init_171 : decode cX8_init 171 = .ok (.bipush 103, 2) := by decide +kernel
theorem dX8_init_173 : decode cX8_init 173 = .ok (.iconst 0, 1) := by decide +kernel
theorem dX8_init_174 : decode cX8_init 174 = .ok (.invokevirtual 57, 3) := by decide +kernel
theorem dX8_init_177 : decode cX8_init 177 = .ok (.aload_n 0, 1) := by decide +kernel
theorem dX8_init_178 : decode cX8_init 178 = .ok (.bipush 15, 2) := by decide +kernel
theorem dX8_init_180 : decode cX8_init 180 = .ok (.bipush 101, 2) := by decide +kernel
theorem dX8_init_182 : decode cX8_init 182 = .ok (.bipush 110, 2) := by decide +kernel
theorem dX8_init_184 : decode cX8_init 184 = .ok (.bipush 100, 2) := by decide +kernel
theorem dX8_init_186 : decode cX8_init 186 = .ok (.bipush 115, 2) := by decide +kernel
theorem dX8_init_188 : decode cX8_init 188 = .ok (.iconst 0, 1) := by decide +kernel
theorem dX8_init_189 : decode cX8_init 189 = .ok (.invokevirtual 57, 3) := by decide +kernel
theorem dX8_init_192 : decode cX8_init 192 = .ok (.aload_n 0, 1) := by decide +kernel
theorem dX8_init_193 : decode cX8_init 193 = .ok (.bipush 20, 2) := by decide +kernel
theorem dX8_init_195 : decode cX8_init 195 = .ok (.bipush 116, 2) := by decide +kernel
theorem dX8_init_197 : decode cX8_init 197 = .ok (.bipush 117, 2) := by decide +kernel
theorem dX8_init_199 : decode cX8_init 199 = .ok (.bipush 114, 2) := by decide +kernel
theorem dX8_init_201 : decode cX8_init 201 = .ok (.bipush 110, 2) := by decide +kernel
theorem dX8_init_203 : decode cX8_init 203 = .ok (.iconst 0, 1) := by decide +kernel
theorem dX8_init_204 : decode cX8_init 204 = .ok (.invokevirtual 57, 3) := by decide +kernel
theorem dX8_init_207 : decode cX8_init 207 = .ok (.return_, 1) := by decide +kernel
theorem dX8_tell_0 : decode cX8_tell 0 = .ok (.aload_n 0, 1) := by decide +kernel
theorem dX8_tell_1 : decode cX8_tell 1 = .ok (.getfield 32, 3) := by decide +kernel
theorem dX8_tell_4 : decode cX8_tell 4 = .ok (.iload_n 1, 1) := by decide +kernel
theorem dX8_tell_5 : decode cX8_tell 5 = .ok (.iload_n 2, 1) := by decide +kernel
theorem dX8_tell_6 : decode cX8_tell 6 = .ok (.iastore, 1) := by decide +kernel
theorem dX8_tell_7 : decode cX8_tell 7 = .ok (.aload_n 0, 1) := by decide +kernel
theorem dX8_tell_8 : decode cX8_tell 8 = .ok (.getfield 32, 3) := by decide +kernel
theorem dX8_tell_11 : decode cX8_tell 11 = .ok (.iload_n 1, 1) := by decide +kernel
theorem dX8_tell_12 : decode cX8_tell 12 = .ok (.iconst 1, 1) := by decide +kernel
theorem dX8_tell_13 : decode cX8_tell 13 = .ok (.iadd, 1) := by decide +kernel
theorem dX8_tell_14 : decode cX8_tell 14 = .ok (.iload_n 3, 1) := by decide +kernel
theorem dX8_tell_15 : decode cX8_tell 15 = .ok (.iastore, 1) := by decide +kernel
theorem dX8_tell_16 : decode cX8_tell 16 = .ok (.aload_n 0, 1) := by decide +kernel
theorem dX8_tell_17 : decode cX8_tell 17 = .ok (.getfield 32, 3) := by decide +kernel
theorem dX8_tell_20 : decode cX8_tell 20 = .ok (.iload_n 1, 1) := by decide +kernel
theorem dX8_tell_21 : decode cX8_tell 21 = .ok (.iconst 2, 1) := by decide +kernel
theorem dX8_tell_22 : decode cX8_tell 22 = .ok (.iadd, 1) := by decide +kernel
theorem dX8_tell_23 : decode cX8_tell 23 = .ok (.iload 4, 2) := by decide +kernel
theorem dX8_tell_25 : decode cX8_tell 25 = .ok (.iastore, 1) := by decide +kernel
theorem dX8_tell_26 : decode cX8_tell 26 = .ok (.aload_n 0, 1) := by decide +kernel
theorem dX8_tell_27 : decode cX8_tell 27 = .ok (.getfield 32, 3) := by decide +kernel
theorem dX8_tell_30 : decode cX8_tell 30 = .ok (.iload_n 1, 1) := by decide +kernel
theorem dX8_tell_31 : decode cX8_tell 31 = .ok (.iconst 3, 1) := by decide +kernel
theorem dX8_tell_32 : decode cX8_tell 32 = .ok (.iadd, 1) := by decide +kernel
theorem dX8_tell_33 : decode cX8_tell 33 = .ok (.iload 5, 2) := by decide +kernel
theorem dX8_tell_35 : decode cX8_tell 35 = .ok (.iastore, 1) := by decide +kernel
theorem dX8_tell_36 : decode cX8_tell 36 = .ok (.aload_n 0, 1) := by decide +kernel
theorem dX8_tell_37 : decode cX8_tell 37 = .ok (.getfield 32, 3) := by decide +kernel
theorem dX8_tell_40 : decode cX8_tell 40 = .ok (.iload_n 1, 1) := by decide +kernel
theorem dX8_tell_41 : decode cX8_tell 41 = .ok (.iconst 4, 1) := by decide +kernel
theorem dX8_tell_42 : decode cX8_tell 42 = .ok (.iadd, 1) := by decide +kernel
theorem dX8_tell_43 : decode cX8_tell 43 = .ok (.iload 6, 2) := by decide +kernel
theorem dX8_tell_45 : decode cX8_tell 45 = .ok (.iastore, 1) := by decide +kernel
theorem dX8_tell_46 : decode cX8_tell 46 = .ok (.return_, 1) := by decide +kernel
theorem dX8_thrown_0 : decode cX8_thrown 0 = .ok (.aload_n 0, 1) := by decide +kernel
theorem dX8_thrown_1 : decode cX8_thrown 1 = .ok (.getfield 61, 3) := by decide +kernel
theorem dX8_thrown_4 : decode cX8_thrown 4 = .ok (.ireturn, 1) := by decide +kernel
theorem dX8_refused_0 : decode cX8_refused 0 = .ok (.aload_n 0, 1) := by decide +kernel
theorem dX8_refused_1 : decode cX8_refused 1 = .ok (.iload_n 1, 1) := by decide +kernel
theorem dX8_refused_2 : decode cX8_refused 2 = .ok (.putfield 61, 3) := by decide +kernel
theorem dX8_refused_5 : decode cX8_refused 5 = .ok (.iload_n 1, 1) := by decide +kernel
theorem dX8_refused_6 : decode cX8_refused 6 = .ok (.ifCond .le 7, 3) := by decide +kernel
theorem dX8_refused_9 : decode cX8_refused 9 = .ok (.iconst 1, 1) := by decide +kernel
theorem dX8_refused_10 : decode cX8_refused 10 = .ok (.goto 4, 3) := by decide +kernel
theorem dX8_refused_13 : decode cX8_refused 13 = .ok (.iconst 0, 1) := by decide +kernel
theorem dX8_refused_14 : decode cX8_refused 14 = .ok (.ireturn, 1) := by decide +kernel
theorem dX8_in_0 : decode cX8_in 0 = .ok (.lload_n 0, 1) := by decide +kernel
theorem dX8_in_1 : decode cX8_in 1 = .ok (.lload_n 2, 1) := by decide +kernel
theorem dX8_in_2 : decode cX8_in 2 = .ok (.lcmp, 1) := by decide +kernel
theorem dX8_in_3 : decode cX8_in 3 = .ok (.ifCond .lt 14, 3) := by decide +kernel
theorem dX8_in_6 : decode cX8_in 6 = .ok (.lload_n 0, 1) := by decide +kernel
theorem dX8_in_7 : decode cX8_in 7 = .ok (.lload 4, 2) := by decide +kernel
theorem dX8_in_9 : decode cX8_in 9 = .ok (.lcmp, 1) := by decide +kernel
theorem dX8_in_10 : decode cX8_in 10 = .ok (.ifCond .gt 7, 3) := by decide +kernel
theorem dX8_in_13 : decode cX8_in 13 = .ok (.iconst 1, 1) := by decide +kernel
theorem dX8_in_14 : decode cX8_in 14 = .ok (.goto 4, 3) := by decide +kernel
theorem dX8_in_17 : decode cX8_in 17 = .ok (.iconst 0, 1) := by decide +kernel
theorem dX8_in_18 : decode cX8_in 18 = .ok (.ireturn, 1) := by decide +kernel
theorem dX8_clear_0 : decode cX8_clear 0 = .ok (.iconst 0, 1) := by decide +kernel
theorem dX8_clear_1 : decode cX8_clear 1 = .ok (.istore_n 2, 1) := by decide +kernel
theorem dX8_clear_2 : decode cX8_clear 2 = .ok (.iload_n 2, 1) := by decide +kernel
theorem dX8_clear_3 : decode cX8_clear 3 = .ok (.bipush 84, 2) := by decide +kernel
theorem dX8_clear_5 : decode cX8_clear 5 = .ok (.if_icmp .ge 13, 3) := by decide +kernel
theorem dX8_clear_8 : decode cX8_clear 8 = .ok (.aload_n 0, 1) := by decide +kernel
theorem dX8_clear_9 : decode cX8_clear 9 = .ok (.iload_n 2, 1) := by decide +kernel
theorem dX8_clear_10 : decode cX8_clear 10 = .ok (.iconst 0, 1) := by decide +kernel
theorem dX8_clear_11 : decode cX8_clear 11 = .ok (.iastore, 1) := by decide +kernel
theorem dX8_clear_12 : decode cX8_clear 12 = .ok (.iinc 2 1, 3) := by decide +kernel
theorem dX8_clear_15 : decode cX8_clear 15 = .ok (.goto (-13), 3) := by decide +kernel
theorem dX8_clear_18 : decode cX8_clear 18 = .ok (.aload_n 0, 1) := by decide +kernel
theorem dX8_clear_19 : decode cX8_clear 19 = .ok (.iconst 0, 1) := by decide +kernel
theorem dX8_clear_20 : decode cX8_clear 20 = .ok (.iload_n 1, 1) := by decide +kernel
theorem dX8_clear_21 : decode cX8_clear 21 = .ok (.iastore, 1) := by decide +kernel
theorem dX8_clear_22 : decode cX8_clear 22 = .ok (.return_, 1) := by decide +kernel
theorem dX8_copyTown_0 : decode cX8_copyTown 0 = .ok (.iconst 0, 1) := by decide +kernel
theorem dX8_copyTown_1 : decode cX8_copyTown 1 = .ok (.istore 4, 2) := by decide +kernel
theorem dX8_copyTown_3 : decode cX8_copyTown 3 = .ok (.iload 4, 2) := by decide +kernel
theorem dX8_copyTown_5 : decode cX8_copyTown 5 = .ok (.bipush 84, 2) := by decide +kernel
theorem dX8_copyTown_7 : decode cX8_copyTown 7 = .ok (.if_icmp .ge 21, 3) := by decide +kernel
theorem dX8_copyTown_10 : decode cX8_copyTown 10 = .ok (.aload_n 2, 1) := by decide +kernel
theorem dX8_copyTown_11 : decode cX8_copyTown 11 = .ok (.iload_n 3, 1) := by decide +kernel
theorem dX8_copyTown_12 : decode cX8_copyTown 12 = .ok (.iload 4, 2) := by decide +kernel
theorem dX8_copyTown_14 : decode cX8_copyTown 14 = .ok (.iadd, 1) := by decide +kernel
theorem dX8_copyTown_15 : decode cX8_copyTown 15 = .ok (.aload_n 0, 1) := by decide +kernel
theorem dX8_copyTown_16 : decode cX8_copyTown 16 = .ok (.iload_n 1, 1) := by decide +kernel
theorem dX8_copyTown_17 : decode cX8_copyTown 17 = .ok (.iload 4, 2) := by decide +kernel
theorem dX8_copyTown_19 : decode cX8_copyTown 19 = .ok (.iadd, 1) := by decide +kernel
theorem dX8_copyTown_20 : decode cX8_copyTown 20 = .ok (.iaload, 1) := by decide +kernel
theorem dX8_copyTown_21 : decode cX8_copyTown 21 = .ok (.iastore, 1) := by decide +kernel
theorem dX8_copyTown_22 : decode cX8_copyTown 22 = .ok (.iinc 4 1, 3) := by decide +kernel
theorem dX8_copyTown_25 : decode cX8_copyTown 25 = .ok (.goto (-22), 3) := by decide +kernel
theorem dX8_copyTown_28 : decode cX8_copyTown 28 = .ok (.return_, 1) := by decide +kernel
theorem dX8_isCrossing_0 : decode cX8_isCrossing 0 = .ok (.iload_n 1, 1) := by decide +kernel
theorem dX8_isCrossing_1 : decode cX8_isCrossing 1 = .ok (.i2l, 1) := by decide +kernel
theorem dX8_isCrossing_2 : decode cX8_isCrossing 2 = .ok (.lconst 0, 1) := by decide +kernel
theorem dX8_isCrossing_3 : decode cX8_isCrossing 3 = .ok (.aload_n 0, 1) := by decide +kernel
theorem dX8_isCrossing_4 : decode cX8_isCrossing 4 = .ok (.iconst 0, 1) := by decide +kernel
theorem dX8_isCrossing_5 : decode cX8_isCrossing 5 = .ok (.iaload, 1) := by decide +kernel
theorem dX8_isCrossing_6 : decode cX8_isCrossing 6 = .ok (.iconst 1, 1) := by decide +kernel
theorem dX8_isCrossing_7 : decode cX8_isCrossing 7 = .ok (.isub, 1) := by decide +kernel
theorem dX8_isCrossing_8 : decode cX8_isCrossing 8 = .ok (.i2l, 1) := by decide +kernel
theorem dX8_isCrossing_9 : decode cX8_isCrossing 9 = .ok (.invokestatic 65, 3) := by decide +kernel
theorem dX8_isCrossing_12 : decode cX8_isCrossing 12 = .ok (.ireturn, 1) := by decide +kernel
theorem dX8_isStreet_0 : decode cX8_isStreet 0 = .ok (.iload_n 1, 1) := by decide +kernel
theorem dX8_isStreet_1 : decode cX8_isStreet 1 = .ok (.i2l, 1) := by decide +kernel
theorem dX8_isStreet_2 : decode cX8_isStreet 2 = .ok (.lconst 0, 1) := by decide +kernel
theorem dX8_isStreet_3 : decode cX8_isStreet 3 = .ok (.aload_n 0, 1) := by decide +kernel
theorem dX8_isStreet_4 : decode cX8_isStreet 4 = .ok (.iconst 1, 1) := by decide +kernel
theorem dX8_isStreet_5 : decode cX8_isStreet 5 = .ok (.iaload, 1) := by decide +kernel
theorem dX8_isStreet_6 : decode cX8_isStreet 6 = .ok (.iconst 1, 1) := by decide +kernel
theorem dX8_isStreet_7 : decode cX8_isStreet 7 = .ok (.isub, 1) := by decide +kernel
theorem dX8_isStreet_8 : decode cX8_isStreet 8 = .ok (.i2l, 1) := by decide +kernel
theorem dX8_isStreet_9 : decode cX8_isStreet 9 = .ok (.invokestatic 65, 3) := by decide +kernel
theorem dX8_isStreet_12 : decode cX8_isStreet 12 = .ok (.ireturn, 1) := by decide +kernel
theorem dX8_joined_0 : decode cX8_joined 0 = .ok (.iconst 0, 1) := by decide +kernel
theorem dX8_joined_1 : decode cX8_joined 1 = .ok (.istore_n 3, 1) := by decide +kernel
theorem dX8_joined_2 : decode cX8_joined 2 = .ok (.iload_n 3, 1) := by decide +kernel
theorem dX8_joined_3 : decode cX8_joined 3 = .ok (.aload_n 0, 1) := by decide +kernel
theorem dX8_joined_4 : decode cX8_joined 4 = .ok (.iconst 1, 1) := by decide +kernel
theorem dX8_joined_5 : decode cX8_joined 5 = .ok (.iaload, 1) := by decide +kernel
theorem dX8_joined_6 : decode cX8_joined 6 = .ok (.if_icmp .ge 49, 3) := by decide +kernel
theorem dX8_joined_9 : decode cX8_joined 9 = .ok (.aload_n 0, 1) := by decide +kernel
theorem dX8_joined_10 : decode cX8_joined 10 = .ok (.iconst 4, 1) := by decide +kernel
theorem dX8_joined_11 : decode cX8_joined 11 = .ok (.iload_n 3, 1) := by decide +kernel
theorem dX8_joined_12 : decode cX8_joined 12 = .ok (.iadd, 1) := by decide +kernel
theorem dX8_joined_13 : decode cX8_joined 13 = .ok (.iaload, 1) := by decide +kernel
theorem dX8_joined_14 : decode cX8_joined 14 = .ok (.iload_n 1, 1) := by decide +kernel
theorem dX8_joined_15 : decode cX8_joined 15 = .ok (.if_icmp .ne 13, 3) := by decide +kernel
theorem dX8_joined_18 : decode cX8_joined 18 = .ok (.aload_n 0, 1) := by decide +kernel
theorem dX8_joined_19 : decode cX8_joined 19 = .ok (.bipush 24, 2) := by decide +kernel
theorem dX8_joined_21 : decode cX8_joined 21 = .ok (.iload_n 3, 1) := by decide +kernel
theorem dX8_joined_22 : decode cX8_joined 22 = .ok (.iadd, 1) := by decide +kernel
theorem dX8_joined_23 : decode cX8_joined 23 = .ok (.iaload, 1) := by decide +kernel
theorem dX8_joined_24 : decode cX8_joined 24 = .ok (.iload_n 2, 1) := by decide +kernel
theorem dX8_joined_25 : decode cX8_joined 25 = .ok (.if_icmp .eq 22, 3) := by decide +kernel
theorem dX8_joined_28 : decode cX8_joined 28 = .ok (.aload_n 0, 1) := by decide +kernel
theorem dX8_joined_29 : decode cX8_joined 29 = .ok (.iconst 4, 1) := by decide +kernel
theorem dX8_joined_30 : decode cX8_joined 30 = .ok (.iload_n 3, 1) := by decide +kernel
theorem dX8_joined_31 : decode cX8_joined 31 = .ok (.iadd, 1) := by decide +kernel
theorem dX8_joined_32 : decode cX8_joined 32 = .ok (.iaload, 1) := by decide +kernel
theorem dX8_joined_33 : decode cX8_joined 33 = .ok (.iload_n 2, 1) := by decide +kernel
theorem dX8_joined_34 : decode cX8_joined 34 = .ok (.if_icmp .ne 15, 3) := by decide +kernel
theorem dX8_joined_37 : decode cX8_joined 37 = .ok (.aload_n 0, 1) := by decide +kernel
theorem dX8_joined_38 : decode cX8_joined 38 = .ok (.bipush 24, 2) := by decide +kernel
theorem dX8_joined_40 : decode cX8_joined 40 = .ok (.iload_n 3, 1) := by decide +kernel
theorem dX8_joined_41 : decode cX8_joined 41 = .ok (.iadd, 1) := by decide +kernel
theorem dX8_joined_42 : decode cX8_joined 42 = .ok (.iaload, 1) := by decide +kernel
theorem dX8_joined_43 : decode cX8_joined 43 = .ok (.iload_n 1, 1) := by decide +kernel
theorem dX8_joined_44 : decode cX8_joined 44 = .ok (.if_icmp .ne 5, 3) := by decide +kernel
theorem dX8_joined_47 : decode cX8_joined 47 = .ok (.iload_n 3, 1) := by decide +kernel
theorem dX8_joined_48 : decode cX8_joined 48 = .ok (.ireturn, 1) := by decide +kernel
theorem dX8_joined_49 : decode cX8_joined 49 = .ok (.iinc 3 1, 3) := by decide +kernel
theorem dX8_joined_52 : decode cX8_joined 52 = .ok (.goto (-50), 3) := by decide +kernel
theorem dX8_joined_55 : decode cX8_joined 55 = .ok (.sipush (-999), 3) := by decide +kernel
theorem dX8_joined_58 : decode cX8_joined 58 = .ok (.ireturn, 1) := by decide +kernel
theorem dX8_streetsAt_0 : decode cX8_streetsAt 0 = .ok (.iconst 0, 1) := by decide +kernel
theorem dX8_streetsAt_1 : decode cX8_streetsAt 1 = .ok (.istore_n 3, 1) := by decide +kernel
theorem dX8_streetsAt_2 : decode cX8_streetsAt 2 = .ok (.iconst 0, 1) := by decide +kernel
theorem dX8_streetsAt_3 : decode cX8_streetsAt 3 = .ok (.istore 4, 2) := by decide +kernel
theorem dX8_streetsAt_5 : decode cX8_streetsAt 5 = .ok (.iload 4, 2) := by decide +kernel
theorem dX8_streetsAt_7 : decode cX8_streetsAt 7 = .ok (.aload_n 0, 1) := by decide +kernel
theorem dX8_streetsAt_8 : decode cX8_streetsAt 8 = .ok (.iconst 1, 1) := by decide +kernel
theorem dX8_streetsAt_9 : decode cX8_streetsAt 9 = .ok (.iaload, 1) := by decide +kernel
theorem dX8_streetsAt_10 : decode cX8_streetsAt 10 = .ok (.if_icmp .ge 64, 3) := by decide +kernel
theorem dX8_streetsAt_13 : decode cX8_streetsAt 13 = .ok (.aload_n 0, 1) := by decide +kernel
theorem dX8_streetsAt_14 : decode cX8_streetsAt 14 = .ok (.iconst 4, 1) := by decide +kernel
theorem dX8_streetsAt_15 : decode cX8_streetsAt 15 = .ok (.iload 4, 2) := by decide +kernel
theorem dX8_streetsAt_17 : decode cX8_streetsAt 17 = .ok (.iadd, 1) := by decide +kernel
theorem dX8_streetsAt_18 : decode cX8_streetsAt 18 = .ok (.iaload, 1) := by decide +kernel
theorem dX8_streetsAt_19 : decode cX8_streetsAt 19 = .ok (.iload_n 1, 1) := by decide +kernel
theorem dX8_streetsAt_20 : decode cX8_streetsAt 20 = .ok (.if_icmp .eq 14, 3) := by decide +kernel
theorem dX8_streetsAt_23 : decode cX8_streetsAt 23 = .ok (.aload_n 0, 1) := by decide +kernel
theorem dX8_streetsAt_24 : decode cX8_streetsAt 24 = .ok (.bipush 24, 2) := by decide +kernel
theorem dX8_streetsAt_26 : decode cX8_streetsAt 26 = .ok (.iload 4, 2) := by decide +kernel
theorem dX8_streetsAt_28 : decode cX8_streetsAt 28 = .ok (.iadd, 1) := by decide +kernel
theorem dX8_streetsAt_29 : decode cX8_streetsAt 29 = .ok (.iaload, 1) := by decide +kernel
theorem dX8_streetsAt_30 : decode cX8_streetsAt 30 = .ok (.iload_n 1, 1) := by decide +kernel
theorem dX8_streetsAt_31 : decode cX8_streetsAt 31 = .ok (.if_icmp .ne 7, 3) := by decide +kernel
theorem dX8_streetsAt_34 : decode cX8_streetsAt 34 = .ok (.iconst 1, 1) := by decide +kernel
theorem dX8_streetsAt_35 : decode cX8_streetsAt 35 = .ok (.goto 4, 3) := by decide +kernel
theorem dX8_streetsAt_38 : decode cX8_streetsAt 38 = .ok (.iconst 0, 1) := by decide +kernel
theorem dX8_streetsAt_39 : decode cX8_streetsAt 39 = .ok (.istore 5, 2) := by decide +kernel
theorem dX8_streetsAt_41 : decode cX8_streetsAt 41 = .ok (.iload_n 3, 1) := by decide +kernel
theorem dX8_streetsAt_42 : decode cX8_streetsAt 42 = .ok (.iload 5, 2) := by decide +kernel
theorem dX8_streetsAt_44 : decode cX8_streetsAt 44 = .ok (.ifCond .eq 21, 3) := by decide +kernel
theorem dX8_streetsAt_47 : decode cX8_streetsAt 47 = .ok (.iload_n 2, 1) := by decide +kernel
theorem dX8_streetsAt_48 : decode cX8_streetsAt 48 = .ok (.ifCond .eq 13, 3) := by decide +kernel
theorem dX8_streetsAt_51 : decode cX8_streetsAt 51 = .ok (.aload_n 0, 1) := by decide +kernel
theorem dX8_streetsAt_52 : decode cX8_streetsAt 52 = .ok (.bipush 64, 2) := by decide +kernel
theorem dX8_streetsAt_54 : decode cX8_streetsAt 54 = .ok (.iload 4, 2) := by decide +kernel
theorem dX8_streetsAt_56 : decode cX8_streetsAt 56 = .ok (.iadd, 1) := by decide +kernel
theorem dX8_streetsAt_57 : decode cX8_streetsAt 57 = .ok (.iaload, 1) := by decide +kernel
theorem dX8_streetsAt_58 : decode cX8_streetsAt 58 = .ok (.ifCond .ne 7, 3) := by decide +kernel
theorem dX8_streetsAt_61 : decode cX8_streetsAt 61 = .ok (.iconst 1, 1) := by decide +kernel
theorem dX8_streetsAt_62 : decode cX8_streetsAt 62 = .ok (.goto 4, 3) := by decide +kernel
theorem dX8_streetsAt_65 : decode cX8_streetsAt 65 = .ok (.iconst 0, 1) := by decide +kernel
theorem dX8_streetsAt_66 : decode cX8_streetsAt 66 = .ok (.iadd, 1) := by decide +kernel
theorem dX8_streetsAt_67 : decode cX8_streetsAt 67 = .ok (.istore_n 3, 1) := by decide +kernel
theorem dX8_streetsAt_68 : decode cX8_streetsAt 68 = .ok (.iinc 4 1, 3) := by decide +kernel
theorem dX8_streetsAt_71 : decode cX8_streetsAt 71 = .ok (.goto (-66), 3) := by decide +kernel
theorem dX8_streetsAt_74 : decode cX8_streetsAt 74 = .ok (.iload_n 3, 1) := by decide +kernel
theorem dX8_streetsAt_75 : decode cX8_streetsAt 75 = .ok (.ireturn, 1) := by decide +kernel
theorem dX8_build_0 : decode cX8_build 0 = .ok (.aload_n 0, 1) := by decide +kernel
theorem dX8_build_1 : decode cX8_build 1 = .ok (.iconst 1, 1) := by decide +kernel
theorem dX8_build_2 : decode cX8_build 2 = .ok (.iaload, 1) := by decide +kernel
theorem dX8_build_3 : decode cX8_build 3 = .ok (.istore 4, 2) := by decide +kernel
theorem dX8_build_5 : decode cX8_build 5 = .ok (.aload_n 0, 1) := by decide +kernel
theorem dX8_build_6 : decode cX8_build 6 = .ok (.iconst 4, 1) := by decide +kernel
theorem dX8_build_7 : decode cX8_build 7 = .ok (.iload 4, 2) := by decide +kernel
theorem dX8_build_9 : decode cX8_build 9 = .ok (.iadd, 1) := by decide +kernel
theorem dX8_build_10 : decode cX8_build 10 = .ok (.iload_n 1, 1) := by decide +kernel
theorem dX8_build_11 : decode cX8_build 11 = .ok (.iastore, 1) := by decide +kernel
theorem dX8_build_12 : decode cX8_build 12 = .ok (.aload_n 0, 1) := by decide +kernel
theorem dX8_build_13 : decode cX8_build 13 = .ok (.bipush 24, 2) := by decide +kernel
theorem dX8_build_15 : decode cX8_build 15 = .ok (.iload 4, 2) := by decide +kernel
theorem dX8_build_17 : decode cX8_build 17 = .ok (.iadd, 1) := by decide +kernel
theorem dX8_build_18 : decode cX8_build 18 = .ok (.iload_n 2, 1) := by decide +kernel
theorem dX8_build_19 : decode cX8_build 19 = .ok (.iastore, 1) := by decide +kernel
theorem dX8_build_20 : decode cX8_build 20 = .ok (.aload_n 0, 1) := by decide +kernel
theorem dX8_build_21 : decode cX8_build 21 = .ok (.bipush 44, 2) := by decide +kernel
theorem dX8_build_23 : decode cX8_build 23 = .ok (.iload 4, 2) := by decide +kernel
theorem dX8_build_25 : decode cX8_build 25 = .ok (.iadd, 1) := by decide +kernel
theorem dX8_build_26 : decode cX8_build 26 = .ok (.iload_n 3, 1) := by decide +kernel
theorem dX8_build_27 : decode cX8_build 27 = .ok (.iastore, 1) := by decide +kernel
theorem dX8_build_28 : decode cX8_build 28 = .ok (.aload_n 0, 1) := by decide +kernel
theorem dX8_build_29 : decode cX8_build 29 = .ok (.bipush 64, 2) := by decide +kernel
theorem dX8_build_31 : decode cX8_build 31 = .ok (.iload 4, 2) := by decide +kernel
theorem dX8_build_33 : decode cX8_build 33 = .ok (.iadd, 1) := by decide +kernel
theorem dX8_build_34 : decode cX8_build 34 = .ok (.iconst 0, 1) := by decide +kernel
theorem dX8_build_35 : decode cX8_build 35 = .ok (.iastore, 1) := by decide +kernel
theorem dX8_build_36 : decode cX8_build 36 = .ok (.aload_n 0, 1) := by decide +kernel
theorem dX8_build_37 : decode cX8_build 37 = .ok (.iconst 1, 1) := by decide +kernel
theorem dX8_build_38 : decode cX8_build 38 = .ok (.dup2, 1) := by decide +kernel
theorem dX8_build_39 : decode cX8_build 39 = .ok (.iaload, 1) := by decide +kernel
theorem dX8_build_40 : decode cX8_build 40 = .ok (.iconst 1, 1) := by decide +kernel
theorem dX8_build_41 : decode cX8_build 41 = .ok (.iadd, 1) := by decide +kernel
theorem dX8_build_42 : decode cX8_build 42 = .ok (.iastore, 1) := by decide +kernel
theorem dX8_build_43 : decode cX8_build 43 = .ok (.iload 4, 2) := by decide +kernel
theorem dX8_build_45 : decode cX8_build 45 = .ok (.ireturn, 1) := by decide +kernel
theorem dX8_tearDown_0 : decode cX8_tearDown 0 = .ok (.aload_n 0, 1) := by decide +kernel
theorem dX8_tearDown_1 : decode cX8_tearDown 1 = .ok (.iconst 1, 1) := by decide +kernel
theorem dX8_tearDown_2 : decode cX8_tearDown 2 = .ok (.dup2, 1) := by decide +kernel
theorem dX8_tearDown_3 : decode cX8_tearDown 3 = .ok (.iaload, 1) := by decide +kernel
theorem dX8_tearDown_4 : decode cX8_tearDown 4 = .ok (.iconst 1, 1) := by decide +kernel
theorem dX8_tearDown_5 : decode cX8_tearDown 5 = .ok (.isub, 1) := by decide +kernel
theorem dX8_tearDown_6 : decode cX8_tearDown 6 = .ok (.iastore, 1) := by decide +kernel
theorem dX8_tearDown_7 : decode cX8_tearDown 7 = .ok (.iload_n 1, 1) := by decide +kernel
theorem dX8_tearDown_8 : decode cX8_tearDown 8 = .ok (.istore_n 2, 1) := by decide +kernel
theorem dX8_tearDown_9 : decode cX8_tearDown 9 = .ok (.iload_n 2, 1) := by decide +kernel
theorem dX8_tearDown_10 : decode cX8_tearDown 10 = .ok (.aload_n 0, 1) := by decide +kernel
theorem dX8_tearDown_11 : decode cX8_tearDown 11 = .ok (.iconst 1, 1) := by decide +kernel
theorem dX8_tearDown_12 : decode cX8_tearDown 12 = .ok (.iaload, 1) := by decide +kernel
theorem dX8_tearDown_13 : decode cX8_tearDown 13 = .ok (.if_icmp .ge 63, 3) := by decide +kernel
theorem dX8_tearDown_16 : decode cX8_tearDown 16 = .ok (.aload_n 0, 1) := by decide +kernel
theorem dX8_tearDown_17 : decode cX8_tearDown 17 = .ok (.iconst 4, 1) := by decide +kernel
theorem dX8_tearDown_18 : decode cX8_tearDown 18 = .ok (.iload_n 2, 1) := by decide +kernel
theorem dX8_tearDown_19 : decode cX8_tearDown 19 = .ok (.iadd, 1) := by decide +kernel
theorem dX8_tearDown_20 : decode cX8_tearDown 20 = .ok (.aload_n 0, 1) := by decide +kernel
theorem dX8_tearDown_21 : decode cX8_tearDown 21 = .ok (.iconst 4, 1) := by decide +kernel
theorem dX8_tearDown_22 : decode cX8_tearDown 22 = .ok (.iload_n 2, 1) := by decide +kernel
theorem dX8_tearDown_23 : decode cX8_tearDown 23 = .ok (.iadd, 1) := by decide +kernel
theorem dX8_tearDown_24 : decode cX8_tearDown 24 = .ok (.iconst 1, 1) := by decide +kernel
theorem dX8_tearDown_25 : decode cX8_tearDown 25 = .ok (.iadd, 1) := by decide +kernel
theorem dX8_tearDown_26 : decode cX8_tearDown 26 = .ok (.iaload, 1) := by decide +kernel
theorem dX8_tearDown_27 : decode cX8_tearDown 27 = .ok (.iastore, 1) := by decide +kernel
theorem dX8_tearDown_28 : decode cX8_tearDown 28 = .ok (.aload_n 0, 1) := by decide +kernel
theorem dX8_tearDown_29 : decode cX8_tearDown 29 = .ok (.bipush 24, 2) := by decide +kernel
theorem dX8_tearDown_31 : decode cX8_tearDown 31 = .ok (.iload_n 2, 1) := by decide +kernel
theorem dX8_tearDown_32 : decode cX8_tearDown 32 = .ok (.iadd, 1) := by decide +kernel
theorem dX8_tearDown_33 : decode cX8_tearDown 33 = .ok (.aload_n 0, 1) := by decide +kernel
theorem dX8_tearDown_34 : decode cX8_tearDown 34 = .ok (.bipush 24, 2) := by decide +kernel
theorem dX8_tearDown_36 : decode cX8_tearDown 36 = .ok (.iload_n 2, 1) := by decide +kernel
theorem dX8_tearDown_37 : decode cX8_tearDown 37 = .ok (.iadd, 1) := by decide +kernel
theorem dX8_tearDown_38 : decode cX8_tearDown 38 = .ok (.iconst 1, 1) := by decide +kernel
theorem dX8_tearDown_39 : decode cX8_tearDown 39 = .ok (.iadd, 1) := by decide +kernel
theorem dX8_tearDown_40 : decode cX8_tearDown 40 = .ok (.iaload, 1) := by decide +kernel
theorem dX8_tearDown_41 : decode cX8_tearDown 41 = .ok (.iastore, 1) := by decide +kernel
theorem dX8_tearDown_42 : decode cX8_tearDown 42 = .ok (.aload_n 0, 1) := by decide +kernel
theorem dX8_tearDown_43 : decode cX8_tearDown 43 = .ok (.bipush 44, 2) := by decide +kernel
theorem dX8_tearDown_45 : decode cX8_tearDown 45 = .ok (.iload_n 2, 1) := by decide +kernel
theorem dX8_tearDown_46 : decode cX8_tearDown 46 = .ok (.iadd, 1) := by decide +kernel
theorem dX8_tearDown_47 : decode cX8_tearDown 47 = .ok (.aload_n 0, 1) := by decide +kernel
theorem dX8_tearDown_48 : decode cX8_tearDown 48 = .ok (.bipush 44, 2) := by decide +kernel
theorem dX8_tearDown_50 : decode cX8_tearDown 50 = .ok (.iload_n 2, 1) := by decide +kernel
theorem dX8_tearDown_51 : decode cX8_tearDown 51 = .ok (.iadd, 1) := by decide +kernel
theorem dX8_tearDown_52 : decode cX8_tearDown 52 = .ok (.iconst 1, 1) := by decide +kernel
theorem dX8_tearDown_53 : decode cX8_tearDown 53 = .ok (.iadd, 1) := by decide +kernel
theorem dX8_tearDown_54 : decode cX8_tearDown 54 = .ok (.iaload, 1) := by decide +kernel
theorem dX8_tearDown_55 : decode cX8_tearDown 55 = .ok (.iastore, 1) := by decide +kernel
theorem dX8_tearDown_56 : decode cX8_tearDown 56 = .ok (.aload_n 0, 1) := by decide +kernel
theorem dX8_tearDown_57 : decode cX8_tearDown 57 = .ok (.bipush 64, 2) := by decide +kernel
theorem dX8_tearDown_59 : decode cX8_tearDown 59 = .ok (.iload_n 2, 1) := by decide +kernel
theorem dX8_tearDown_60 : decode cX8_tearDown 60 = .ok (.iadd, 1) := by decide +kernel
theorem dX8_tearDown_61 : decode cX8_tearDown 61 = .ok (.aload_n 0, 1) := by decide +kernel
theorem dX8_tearDown_62 : decode cX8_tearDown 62 = .ok (.bipush 64, 2) := by decide +kernel
theorem dX8_tearDown_64 : decode cX8_tearDown 64 = .ok (.iload_n 2, 1) := by decide +kernel
theorem dX8_tearDown_65 : decode cX8_tearDown 65 = .ok (.iadd, 1) := by decide +kernel
theorem dX8_tearDown_66 : decode cX8_tearDown 66 = .ok (.iconst 1, 1) := by decide +kernel
theorem dX8_tearDown_67 : decode cX8_tearDown 67 = .ok (.iadd, 1) := by decide +kernel
theorem dX8_tearDown_68 : decode cX8_tearDown 68 = .ok (.iaload, 1) := by decide +kernel
theorem dX8_tearDown_69 : decode cX8_tearDown 69 = .ok (.iastore, 1) := by decide +kernel
theorem dX8_tearDown_70 : decode cX8_tearDown 70 = .ok (.iinc 2 1, 3) := by decide +kernel
theorem dX8_tearDown_73 : decode cX8_tearDown 73 = .ok (.goto (-64), 3) := by decide +kernel
theorem dX8_tearDown_76 : decode cX8_tearDown 76 = .ok (.return_, 1) := by decide +kernel
theorem dX8_price_0 : decode cX8_price 0 = .ok (.aload_n 0, 1) := by decide +kernel
theorem dX8_price_1 : decode cX8_price 1 = .ok (.getfield 35, 3) := by decide +kernel
theorem dX8_price_4 : decode cX8_price 4 = .ok (.bipush 9, 2) := by decide +kernel
theorem dX8_price_6 : decode cX8_price 6 = .ok (.iload_n 1, 1) := by decide +kernel
theorem dX8_price_7 : decode cX8_price 7 = .ok (.imul, 1) := by decide +kernel
theorem dX8_price_8 : decode cX8_price 8 = .ok (.iload_n 2, 1) := by decide +kernel
theorem dX8_price_9 : decode cX8_price 9 = .ok (.iadd, 1) := by decide +kernel
theorem dX8_price_10 : decode cX8_price 10 = .ok (.iload_n 3, 1) := by decide +kernel
theorem dX8_price_11 : decode cX8_price 11 = .ok (.iastore, 1) := by decide +kernel
theorem dX8_price_12 : decode cX8_price 12 = .ok (.aload_n 0, 1) := by decide +kernel
theorem dX8_price_13 : decode cX8_price 13 = .ok (.getfield 35, 3) := by decide +kernel
theorem dX8_price_16 : decode cX8_price 16 = .ok (.bipush 9, 2) := by decide +kernel
theorem dX8_price_18 : decode cX8_price 18 = .ok (.iload_n 2, 1) := by decide +kernel
theorem dX8_price_19 : decode cX8_price 19 = .ok (.imul, 1) := by decide +kernel
theorem dX8_price_20 : decode cX8_price 20 = .ok (.iload_n 1, 1) := by decide +kernel
theorem dX8_price_21 : decode cX8_price 21 = .ok (.iadd, 1) := by decide +kernel
theorem dX8_price_22 : decode cX8_price 22 = .ok (.iload_n 3, 1) := by decide +kernel
theorem dX8_price_23 : decode cX8_price 23 = .ok (.iastore, 1) := by decide +kernel
theorem dX8_price_24 : decode cX8_price 24 = .ok (.return_, 1) := by decide +kernel
theorem dX8_layCosts_0 : decode cX8_layCosts 0 = .ok (.iconst 0, 1) := by decide +kernel
theorem dX8_layCosts_1 : decode cX8_layCosts 1 = .ok (.istore_n 3, 1) := by decide +kernel
theorem dX8_layCosts_2 : decode cX8_layCosts 2 = .ok (.iload_n 3, 1) := by decide +kernel
theorem dX8_layCosts_3 : decode cX8_layCosts 3 = .ok (.bipush 81, 2) := by decide +kernel
theorem dX8_layCosts_5 : decode cX8_layCosts 5 = .ok (.if_icmp .ge 16, 3) := by decide +kernel
theorem dX8_layCosts_8 : decode cX8_layCosts 8 = .ok (.aload_n 0, 1) := by decide +kernel
theorem dX8_layCosts_9 : decode cX8_layCosts 9 = .ok (.getfield 35, 3) := by decide +kernel
theorem dX8_layCosts_12 : decode cX8_layCosts 12 = .ok (.iload_n 3, 1) := by decide +kernel
theorem dX8_layCosts_13 : decode cX8_layCosts 13 = .ok (.iconst 0, 1) := by decide +kernel
theorem dX8_layCosts_14 : decode cX8_layCosts 14 = .ok (.iastore, 1) := by decide +kernel
theorem dX8_layCosts_15 : decode cX8_layCosts 15 = .ok (.iinc 3 1, 3) := by decide +kernel
theorem dX8_layCosts_18 : decode cX8_layCosts 18 = .ok (.goto (-16), 3) := by decide +kernel
theorem dX8_layCosts_21 : decode cX8_layCosts 21 = .ok (.iconst 0, 1) := by decide +kernel
theorem dX8_layCosts_22 : decode cX8_layCosts 22 = .ok (.istore_n 3, 1) := by decide +kernel
theorem dX8_layCosts_23 : decode cX8_layCosts 23 = .ok (.iload_n 3, 1) := by decide +kernel
theorem dX8_layCosts_24 : decode cX8_layCosts 24 = .ok (.aload_n 1, 1) := by decide +kernel
theorem dX8_layCosts_25 : decode cX8_layCosts 25 = .ok (.iconst 1, 1) := by decide +kernel
theorem dX8_layCosts_26 : decode cX8_layCosts 26 = .ok (.iaload, 1) := by decide +kernel
theorem dX8_layCosts_27 : decode cX8_layCosts 27 = .ok (.if_icmp .ge 49, 3) := by decide +kernel
theorem dX8_layCosts_30 : decode cX8_layCosts 30 = .ok (.aload_n 1, 1) := by decide +kernel
theorem dX8_layCosts_31 : decode cX8_layCosts 31 = .ok (.bipush 64, 2) := by decide +kernel
theorem dX8_layCosts_33 : decode cX8_layCosts 33 = .ok (.iload_n 3, 1) := by decide +kernel
theorem dX8_layCosts_34 : decode cX8_layCosts 34 = .ok (.iadd, 1) := by decide +kernel
theorem dX8_layCosts_35 : decode cX8_layCosts 35 = .ok (.iaload, 1) := by decide +kernel
theorem dX8_layCosts_36 : decode cX8_layCosts 36 = .ok (.ifCond .ne 34, 3) := by decide +kernel
theorem dX8_layCosts_39 : decode cX8_layCosts 39 = .ok (.iload_n 3, 1) := by decide +kernel
theorem dX8_layCosts_40 : decode cX8_layCosts 40 = .ok (.iload_n 2, 1) := by decide +kernel
theorem dX8_layCosts_41 : decode cX8_layCosts 41 = .ok (.if_icmp .eq 29, 3) := by decide +kernel
theorem dX8_layCosts_44 : decode cX8_layCosts 44 = .ok (.aload_n 0, 1) := by decide +kernel
theorem dX8_layCosts_45 : decode cX8_layCosts 45 = .ok (.aload_n 1, 1) := by decide +kernel
theorem dX8_layCosts_46 : decode cX8_layCosts 46 = .ok (.iconst 4, 1) := by decide +kernel
theorem dX8_layCosts_47 : decode cX8_layCosts 47 = .ok (.iload_n 3, 1) := by decide +kernel
theorem dX8_layCosts_48 : decode cX8_layCosts 48 = .ok (.iadd, 1) := by decide +kernel
theorem dX8_layCosts_49 : decode cX8_layCosts 49 = .ok (.iaload, 1) := by decide +kernel
theorem dX8_layCosts_50 : decode cX8_layCosts 50 = .ok (.aload_n 1, 1) := by decide +kernel
theorem dX8_layCosts_51 : decode cX8_layCosts 51 = .ok (.bipush 24, 2) := by decide +kernel
theorem dX8_layCosts_53 : decode cX8_layCosts 53 = .ok (.iload_n 3, 1) := by decide +kernel
theorem dX8_layCosts_54 : decode cX8_layCosts 54 = .ok (.iadd, 1) := by decide +kernel
theorem dX8_layCosts_55 : decode cX8_layCosts 55 = .ok (.iaload, 1) := by decide +kernel
theorem dX8_layCosts_56 : decode cX8_layCosts 56 = .ok (.bipush 100, 2) := by decide +kernel
theorem dX8_layCosts_58 : decode cX8_layCosts 58 = .ok (.aload_n 1, 1) := by decide +kernel
theorem dX8_layCosts_59 : decode cX8_layCosts 59 = .ok (.bipush 44, 2) := by decide +kernel
theorem dX8_layCosts_61 : decode cX8_layCosts 61 = .ok (.iload_n 3, 1) := by decide +kernel
theorem dX8_layCosts_62 : decode cX8_layCosts 62 = .ok (.iadd, 1) := by decide +kernel
theorem dX8_layCosts_63 : decode cX8_layCosts 63 = .ok (.iaload, 1) := by decide +kernel
theorem dX8_layCosts_64 : decode cX8_layCosts 64 = .ok (.imul, 1) := by decide +kernel
theorem dX8_layCosts_65 : decode cX8_layCosts 65 = .ok (.iconst 1, 1) := by decide +kernel
theorem dX8_layCosts_66 : decode cX8_layCosts 66 = .ok (.iadd, 1) := by decide +kernel
theorem dX8_layCosts_67 : decode cX8_layCosts 67 = .ok (.invokevirtual 69, 3) := by decide +kernel
theorem dX8_layCosts_70 : decode cX8_layCosts 70 = .ok (.iinc 3 1, 3) := by decide +kernel
theorem dX8_layCosts_73 : decode cX8_layCosts 73 = .ok (.goto (-50), 3) := by decide +kernel
theorem dX8_layCosts_76 : decode cX8_layCosts 76 = .ok (.return_, 1) := by decide +kernel
theorem dX8_layFar_0 : decode cX8_layFar 0 = .ok (.iconst 0, 1) := by decide +kernel
theorem dX8_layFar_1 : decode cX8_layFar 1 = .ok (.istore_n 3, 1) := by decide +kernel
theorem dX8_layFar_2 : decode cX8_layFar 2 = .ok (.iload_n 3, 1) := by decide +kernel
theorem dX8_layFar_3 : decode cX8_layFar 3 = .ok (.bipush 9, 2) := by decide +kernel
theorem dX8_layFar_5 : decode cX8_layFar 5 = .ok (.if_icmp .ge 17, 3) := by decide +kernel
theorem dX8_layFar_8 : decode cX8_layFar 8 = .ok (.aload_n 0, 1) := by decide +kernel
theorem dX8_layFar_9 : decode cX8_layFar 9 = .ok (.getfield 38, 3) := by decide +kernel
theorem dX8_layFar_12 : decode cX8_layFar 12 = .ok (.iload_n 3, 1) := by decide +kernel
theorem dX8_layFar_13 : decode cX8_layFar 13 = .ok (.ldc 73, 2) := by decide +kernel
theorem dX8_layFar_15 : decode cX8_layFar 15 = .ok (.iastore, 1) := by decide +kernel
theorem dX8_layFar_16 : decode cX8_layFar 16 = .ok (.iinc 3 1, 3) := by decide +kernel
theorem dX8_layFar_19 : decode cX8_layFar 19 = .ok (.goto (-17), 3) := by decide +kernel
theorem dX8_layFar_22 : decode cX8_layFar 22 = .ok (.aload_n 0, 1) := by decide +kernel
theorem dX8_layFar_23 : decode cX8_layFar 23 = .ok (.getfield 38, 3) := by decide +kernel
theorem dX8_layFar_26 : decode cX8_layFar 26 = .ok (.iload_n 2, 1) := by decide +kernel
theorem dX8_layFar_27 : decode cX8_layFar 27 = .ok (.iconst 0, 1) := by decide +kernel
theorem dX8_layFar_28 : decode cX8_layFar 28 = .ok (.iastore, 1) := by decide +kernel
theorem dX8_layFar_29 : decode cX8_layFar 29 = .ok (.iconst 1, 1) := by decide +kernel
theorem dX8_layFar_30 : decode cX8_layFar 30 = .ok (.istore_n 3, 1) := by decide +kernel
theorem dX8_layFar_31 : decode cX8_layFar 31 = .ok (.iload_n 3, 1) := by decide +kernel
theorem dX8_layFar_32 : decode cX8_layFar 32 = .ok (.ifCond .eq 88, 3) := by decide +kernel
theorem dX8_layFar_35 : decode cX8_layFar 35 = .ok (.iconst 0, 1) := by decide +kernel
theorem dX8_layFar_36 : decode cX8_layFar 36 = .ok (.istore_n 3, 1) := by decide +kernel
theorem dX8_layFar_37 : decode cX8_layFar 37 = .ok (.iconst 0, 1) := by decide +kernel
theorem dX8_layFar_38 : decode cX8_layFar 38 = .ok (.istore 4, 2) := by decide +kernel
theorem dX8_layFar_40 : decode cX8_layFar 40 = .ok (.iload 4, 2) := by decide +kernel
theorem dX8_layFar_42 : decode cX8_layFar 42 = .ok (.bipush 81, 2) := by decide +kernel
theorem dX8_layFar_44 : decode cX8_layFar 44 = .ok (.if_icmp .ge 73, 3) := by decide +kernel
theorem dX8_layFar_47 : decode cX8_layFar 47 = .ok (.aload_n 0, 1) := by decide +kernel
theorem dX8_layFar_48 : decode cX8_layFar 48 = .ok (.getfield 35, 3) := by decide +kernel
theorem dX8_layFar_51 : decode cX8_layFar 51 = .ok (.iload 4, 2) := by decide +kernel
theorem dX8_layFar_53 : decode cX8_layFar 53 = .ok (.iaload, 1) := by decide +kernel
theorem dX8_layFar_54 : decode cX8_layFar 54 = .ok (.ifCond .ne 8, 3) := by decide +kernel
theorem dX8_layFar_57 : decode cX8_layFar 57 = .ok (.ldc 73, 2) := by decide +kernel
theorem dX8_layFar_59 : decode cX8_layFar 59 = .ok (.goto 21, 3) := by decide +kernel
theorem dX8_layFar_62 : decode cX8_layFar 62 = .ok (.aload_n 0, 1) := by decide +kernel
theorem dX8_layFar_63 : decode cX8_layFar 63 = .ok (.getfield 35, 3) := by decide +kernel
theorem dX8_layFar_66 : decode cX8_layFar 66 = .ok (.iload 4, 2) := by decide +kernel
theorem dX8_layFar_68 : decode cX8_layFar 68 = .ok (.iaload, 1) := by decide +kernel
theorem dX8_layFar_69 : decode cX8_layFar 69 = .ok (.aload_n 0, 1) := by decide +kernel
theorem dX8_layFar_70 : decode cX8_layFar 70 = .ok (.getfield 38, 3) := by decide +kernel
theorem dX8_layFar_73 : decode cX8_layFar 73 = .ok (.iload 4, 2) := by decide +kernel
theorem dX8_layFar_75 : decode cX8_layFar 75 = .ok (.bipush 9, 2) := by decide +kernel
theorem dX8_layFar_77 : decode cX8_layFar 77 = .ok (.irem, 1) := by decide +kernel
theorem dX8_layFar_78 : decode cX8_layFar 78 = .ok (.iaload, 1) := by decide +kernel
theorem dX8_layFar_79 : decode cX8_layFar 79 = .ok (.iadd, 1) := by decide +kernel
theorem dX8_layFar_80 : decode cX8_layFar 80 = .ok (.istore 5, 2) := by decide +kernel
theorem dX8_layFar_82 : decode cX8_layFar 82 = .ok (.iload 5, 2) := by decide +kernel
theorem dX8_layFar_84 : decode cX8_layFar 84 = .ok (.aload_n 0, 1) := by decide +kernel
theorem dX8_layFar_85 : decode cX8_layFar 85 = .ok (.getfield 38, 3) := by decide +kernel
theorem dX8_layFar_88 : decode cX8_layFar 88 = .ok (.iload 4, 2) := by decide +kernel
theorem dX8_layFar_90 : decode cX8_layFar 90 = .ok (.bipush 9, 2) := by decide +kernel
theorem dX8_layFar_92 : decode cX8_layFar 92 = .ok (.idiv, 1) := by decide +kernel
theorem dX8_layFar_93 : decode cX8_layFar 93 = .ok (.iaload, 1) := by decide +kernel
theorem dX8_layFar_94 : decode cX8_layFar 94 = .ok (.if_icmp .ge 17, 3) := by decide +kernel
theorem dX8_layFar_97 : decode cX8_layFar 97 = .ok (.aload_n 0, 1) := by decide +kernel
theorem dX8_layFar_98 : decode cX8_layFar 98 = .ok (.getfield 38, 3) := by decide +kernel
theorem dX8_layFar_101 : decode cX8_layFar 101 = .ok (.iload 4, 2) := by decide +kernel
theorem dX8_layFar_103 : decode cX8_layFar 103 = .ok (.bipush 9, 2) := by decide +kernel
theorem dX8_layFar_105 : decode cX8_layFar 105 = .ok (.idiv, 1) := by decide +kernel
theorem dX8_layFar_106 : decode cX8_layFar 106 = .ok (.iload 5, 2) := by decide +kernel
theorem dX8_layFar_108 : decode cX8_layFar 108 = .ok (.iastore, 1) := by decide +kernel
theorem dX8_layFar_109 : decode cX8_layFar 109 = .ok (.iconst 1, 1) := by decide +kernel
theorem dX8_layFar_110 : decode cX8_layFar 110 = .ok (.istore_n 3, 1) := by decide +kernel
theorem dX8_layFar_111 : decode cX8_layFar 111 = .ok (.iinc 4 1, 3) := by decide +kernel
theorem dX8_layFar_114 : decode cX8_layFar 114 = .ok (.goto (-74), 3) := by decide +kernel
theorem dX8_layFar_117 : decode cX8_layFar 117 = .ok (.goto (-86), 3) := by decide +kernel
theorem dX8_layFar_120 : decode cX8_layFar 120 = .ok (.return_, 1) := by decide +kernel
theorem dX8_lengthOf_0 : decode cX8_lengthOf 0 = .ok (.iload_n 0, 1) := by decide +kernel
theorem dX8_lengthOf_1 : decode cX8_lengthOf 1 = .ok (.ldc 73, 2) := by decide +kernel
theorem dX8_lengthOf_3 : decode cX8_lengthOf 3 = .ok (.if_icmp .lt 9, 3) := by decide +kernel
theorem dX8_lengthOf_6 : decode cX8_lengthOf 6 = .ok (.sipush (-999), 3) := by decide +kernel
theorem dX8_lengthOf_9 : decode cX8_lengthOf 9 = .ok (.goto 7, 3) := by decide +kernel
theorem dX8_lengthOf_12 : decode cX8_lengthOf 12 = .ok (.iload_n 0, 1) := by decide +kernel
theorem dX8_lengthOf_13 : decode cX8_lengthOf 13 = .ok (.bipush 100, 2) := by decide +kernel
theorem dX8_lengthOf_15 : decode cX8_lengthOf 15 = .ok (.idiv, 1) := by decide +kernel
theorem dX8_lengthOf_16 : decode cX8_lengthOf 16 = .ok (.ireturn, 1) := by decide +kernel
theorem dX8_best_0 : decode cX8_best 0 = .ok (.aload_n 0, 1) := by decide +kernel
theorem dX8_best_1 : decode cX8_best 1 = .ok (.aload_n 1, 1) := by decide +kernel
theorem dX8_best_2 : decode cX8_best 2 = .ok (.aload_n 1, 1) := by decide +kernel
theorem dX8_best_3 : decode cX8_best 3 = .ok (.iconst 3, 1) := by decide +kernel
theorem dX8_best_4 : decode cX8_best 4 = .ok (.iaload, 1) := by decide +kernel
theorem dX8_best_5 : decode cX8_best 5 = .ok (.invokevirtual 74, 3) := by decide +kernel
theorem dX8_best_8 : decode cX8_best 8 = .ok (.aload_n 0, 1) := by decide +kernel
theorem dX8_best_9 : decode cX8_best 9 = .ok (.getfield 38, 3) := by decide +kernel
theorem dX8_best_12 : decode cX8_best 12 = .ok (.aload_n 1, 1) := by decide +kernel
theorem dX8_best_13 : decode cX8_best 13 = .ok (.iconst 2, 1) := by decide +kernel
theorem dX8_best_14 : decode cX8_best 14 = .ok (.iaload, 1) := by decide +kernel
theorem dX8_best_15 : decode cX8_best 15 = .ok (.iaload, 1) := by decide +kernel
theorem dX8_best_16 : decode cX8_best 16 = .ok (.invokestatic 77, 3) := by decide +kernel
theorem dX8_best_19 : decode cX8_best 19 = .ok (.ireturn, 1) := by decide +kernel
theorem dX8_bestBut_0 : decode cX8_bestBut 0 = .ok (.aload_n 0, 1) := by decide +kernel
theorem dX8_bestBut_1 : decode cX8_bestBut 1 = .ok (.aload_n 1, 1) := by decide +kernel
theorem dX8_bestBut_2 : decode cX8_bestBut 2 = .ok (.iload_n 2, 1) := by decide +kernel
theorem dX8_bestBut_3 : decode cX8_bestBut 3 = .ok (.invokevirtual 81, 3) := by decide +kernel
theorem dX8_bestBut_6 : decode cX8_bestBut 6 = .ok (.aload_n 0, 1) := by decide +kernel
theorem dX8_bestBut_7 : decode cX8_bestBut 7 = .ok (.aload_n 1, 1) := by decide +kernel
theorem dX8_bestBut_8 : decode cX8_bestBut 8 = .ok (.invokevirtual 84, 3) := by decide +kernel
theorem dX8_bestBut_11 : decode cX8_bestBut 11 = .ok (.ireturn, 1) := by decide +kernel
theorem dX8_layWay_0 : decode cX8_layWay 0 = .ok (.aload_n 0, 1) := by decide +kernel
theorem dX8_layWay_1 : decode cX8_layWay 1 = .ok (.aload_n 1, 1) := by decide +kernel
theorem dX8_layWay_2 : decode cX8_layWay 2 = .ok (.iload_n 2, 1) := by decide +kernel
theorem dX8_layWay_3 : decode cX8_layWay 3 = .ok (.invokevirtual 88, 3) := by decide +kernel
theorem dX8_layWay_6 : decode cX8_layWay 6 = .ok (.istore_n 3, 1) := by decide +kernel
theorem dX8_layWay_7 : decode cX8_layWay 7 = .ok (.aload_n 0, 1) := by decide +kernel
theorem dX8_layWay_8 : decode cX8_layWay 8 = .ok (.iconst 0, 1) := by decide +kernel
theorem dX8_layWay_9 : decode cX8_layWay 9 = .ok (.putfield 92, 3) := by decide +kernel
theorem dX8_layWay_12 : decode cX8_layWay 12 = .ok (.iload_n 3, 1) := by decide +kernel
theorem dX8_layWay_13 : decode cX8_layWay 13 = .ok (.sipush (-999), 3) := by decide +kernel
theorem dX8_layWay_16 : decode cX8_layWay 16 = .ok (.if_icmp .eq 113, 3) := by decide +kernel
theorem dX8_layWay_19 : decode cX8_layWay 19 = .ok (.aload_n 1, 1) := by decide +kernel
theorem dX8_layWay_20 : decode cX8_layWay 20 = .ok (.iconst 2, 1) := by decide +kernel
theorem dX8_layWay_21 : decode cX8_layWay 21 = .ok (.iaload, 1) := by decide +kernel
theorem dX8_layWay_22 : decode cX8_layWay 22 = .ok (.istore 4, 2) := by decide +kernel
theorem dX8_layWay_24 : decode cX8_layWay 24 = .ok (.aload_n 0, 1) := by decide +kernel
theorem dX8_layWay_25 : decode cX8_layWay 25 = .ok (.getfield 41, 3) := by decide +kernel
theorem dX8_layWay_28 : decode cX8_layWay 28 = .ok (.iconst 0, 1) := by decide +kernel
theorem dX8_layWay_29 : decode cX8_layWay 29 = .ok (.iload 4, 2) := by decide +kernel
theorem dX8_layWay_31 : decode cX8_layWay 31 = .ok (.iastore, 1) := by decide +kernel
theorem dX8_layWay_32 : decode cX8_layWay 32 = .ok (.aload_n 0, 1) := by decide +kernel
theorem dX8_layWay_33 : decode cX8_layWay 33 = .ok (.iconst 1, 1) := by decide +kernel
theorem dX8_layWay_34 : decode cX8_layWay 34 = .ok (.putfield 92, 3) := by decide +kernel
theorem dX8_layWay_37 : decode cX8_layWay 37 = .ok (.iload 4, 2) := by decide +kernel
theorem dX8_layWay_39 : decode cX8_layWay 39 = .ok (.aload_n 1, 1) := by decide +kernel
theorem dX8_layWay_40 : decode cX8_layWay 40 = .ok (.iconst 3, 1) := by decide +kernel
theorem dX8_layWay_41 : decode cX8_layWay 41 = .ok (.iaload, 1) := by decide +kernel
theorem dX8_layWay_42 : decode cX8_layWay 42 = .ok (.if_icmp .eq 87, 3) := by decide +kernel
theorem dX8_layWay_45 : decode cX8_layWay 45 = .ok (.iconst 0, 1) := by decide +kernel
theorem dX8_layWay_46 : decode cX8_layWay 46 = .ok (.istore 5, 2) := by decide +kernel
theorem dX8_layWay_48 : decode cX8_layWay 48 = .ok (.aload_n 0, 1) := by decide +kernel
theorem dX8_layWay_49 : decode cX8_layWay 49 = .ok (.getfield 35, 3) := by decide +kernel
theorem dX8_layWay_52 : decode cX8_layWay 52 = .ok (.bipush 9, 2) := by decide +kernel
theorem dX8_layWay_54 : decode cX8_layWay 54 = .ok (.iload 4, 2) := by decide +kernel
theorem dX8_layWay_56 : decode cX8_layWay 56 = .ok (.imul, 1) := by decide +kernel
theorem dX8_layWay_57 : decode cX8_layWay 57 = .ok (.iload 5, 2) := by decide +kernel
theorem dX8_layWay_59 : decode cX8_layWay 59 = .ok (.iadd, 1) := by decide +kernel
theorem dX8_layWay_60 : decode cX8_layWay 60 = .ok (.iaload, 1) := by decide +kernel
theorem dX8_layWay_61 : decode cX8_layWay 61 = .ok (.ifCond .eq 34, 3) := by decide +kernel
theorem dX8_layWay_64 : decode cX8_layWay 64 = .ok (.aload_n 0, 1) := by decide +kernel
theorem dX8_layWay_65 : decode cX8_layWay 65 = .ok (.getfield 35, 3) := by decide +kernel
theorem dX8_layWay_68 : decode cX8_layWay 68 = .ok (.bipush 9, 2) := by decide +kernel
theorem dX8_layWay_70 : decode cX8_layWay 70 = .ok (.iload 4, 2) := by decide +kernel
theorem dX8_layWay_72 : decode cX8_layWay 72 = .ok (.imul, 1) := by decide +kernel
theorem dX8_layWay_73 : decode cX8_layWay 73 = .ok (.iload 5, 2) := by decide +kernel
theorem dX8_layWay_75 : decode cX8_layWay 75 = .ok (.iadd, 1) := by decide +kernel
theorem dX8_layWay_76 : decode cX8_layWay 76 = .ok (.iaload, 1) := by decide +kernel
theorem dX8_layWay_77 : decode cX8_layWay 77 = .ok (.aload_n 0, 1) := by decide +kernel
theorem dX8_layWay_78 : decode cX8_layWay 78 = .ok (.getfield 38, 3) := by decide +kernel
theorem dX8_layWay_81 : decode cX8_layWay 81 = .ok (.iload 5, 2) := by decide +kernel
theorem dX8_layWay_83 : decode cX8_layWay 83 = .ok (.iaload, 1) := by decide +kernel
theorem dX8_layWay_84 : decode cX8_layWay 84 = .ok (.iadd, 1) := by decide +kernel
theorem dX8_layWay_85 : decode cX8_layWay 85 = .ok (.aload_n 0, 1) := by decide +kernel
theorem dX8_layWay_86 : decode cX8_layWay 86 = .ok (.getfield 38, 3) := by decide +kernel
theorem dX8_layWay_89 : decode cX8_layWay 89 = .ok (.iload 4, 2) := by decide +kernel
theorem dX8_layWay_91 : decode cX8_layWay 91 = .ok (.iaload, 1) := by decide +kernel
theorem dX8_layWay_92 : decode cX8_layWay 92 = .ok (.if_icmp .eq 9, 3) := by decide +kernel
theorem dX8_layWay_95 : decode cX8_layWay 95 = .ok (.iinc 5 1, 3) := by decide +kernel
theorem dX8_layWay_98 : decode cX8_layWay 98 = .ok (.goto (-50), 3) := by decide +kernel
theorem dX8_layWay_101 : decode cX8_layWay 101 = .ok (.iload 5, 2) := by decide +kernel
theorem dX8_layWay_103 : decode cX8_layWay 103 = .ok (.istore 4, 2) := by decide +kernel
theorem dX8_layWay_105 : decode cX8_layWay 105 = .ok (.aload_n 0, 1) := by decide +kernel
theorem dX8_layWay_106 : decode cX8_layWay 106 = .ok (.getfield 41, 3) := by decide +kernel
theorem dX8_layWay_109 : decode cX8_layWay 109 = .ok (.aload_n 0, 1) := by decide +kernel
theorem dX8_layWay_110 : decode cX8_layWay 110 = .ok (.getfield 92, 3) := by decide +kernel
theorem dX8_layWay_113 : decode cX8_layWay 113 = .ok (.iload 4, 2) := by decide +kernel
theorem dX8_layWay_115 : decode cX8_layWay 115 = .ok (.iastore, 1) := by decide +kernel
theorem dX8_layWay_116 : decode cX8_layWay 116 = .ok (.aload_n 0, 1) := by decide +kernel
theorem dX8_layWay_117 : decode cX8_layWay 117 = .ok (.dup, 1) := by decide +kernel
theorem dX8_layWay_118 : decode cX8_layWay 118 = .ok (.getfield 92, 3) := by decide +kernel
theorem dX8_layWay_121 : decode cX8_layWay 121 = .ok (.iconst 1, 1) := by decide +kernel
theorem dX8_layWay_122 : decode cX8_layWay 122 = .ok (.iadd, 1) := by decide +kernel
theorem dX8_layWay_123 : decode cX8_layWay 123 = .ok (.putfield 92, 3) := by decide +kernel
theorem dX8_layWay_126 : decode cX8_layWay 126 = .ok (.goto (-89), 3) := by decide +kernel
theorem dX8_layWay_129 : decode cX8_layWay 129 = .ok (.iload_n 3, 1) := by decide +kernel
theorem dX8_layWay_130 : decode cX8_layWay 130 = .ok (.ireturn, 1) := by decide +kernel
theorem dX8_placeOf_0 : decode cX8_placeOf 0 = .ok (.iconst 0, 1) := by decide +kernel
theorem dX8_placeOf_1 : decode cX8_placeOf 1 = .ok (.istore_n 2, 1) := by decide +kernel
theorem dX8_placeOf_2 : decode cX8_placeOf 2 = .ok (.iload_n 2, 1) := by decide +kernel
theorem dX8_placeOf_3 : decode cX8_placeOf 3 = .ok (.aload_n 0, 1) := by decide +kernel
theorem dX8_placeOf_4 : decode cX8_placeOf 4 = .ok (.getfield 92, 3) := by decide +kernel
theorem dX8_placeOf_7 : decode cX8_placeOf 7 = .ok (.if_icmp .ge 21, 3) := by decide +kernel
theorem dX8_placeOf_10 : decode cX8_placeOf 10 = .ok (.aload_n 0, 1) := by decide +kernel
theorem dX8_placeOf_11 : decode cX8_placeOf 11 = .ok (.getfield 41, 3) := by decide +kernel
theorem dX8_placeOf_14 : decode cX8_placeOf 14 = .ok (.iload_n 2, 1) := by decide +kernel
theorem dX8_placeOf_15 : decode cX8_placeOf 15 = .ok (.iaload, 1) := by decide +kernel
theorem dX8_placeOf_16 : decode cX8_placeOf 16 = .ok (.iload_n 1, 1) := by decide +kernel
theorem dX8_placeOf_17 : decode cX8_placeOf 17 = .ok (.if_icmp .ne 5, 3) := by decide +kernel
theorem dX8_placeOf_20 : decode cX8_placeOf 20 = .ok (.iload_n 2, 1) := by decide +kernel
theorem dX8_placeOf_21 : decode cX8_placeOf 21 = .ok (.ireturn, 1) := by decide +kernel
theorem dX8_placeOf_22 : decode cX8_placeOf 22 = .ok (.iinc 2 1, 3) := by decide +kernel
theorem dX8_placeOf_25 : decode cX8_placeOf 25 = .ok (.goto (-23), 3) := by decide +kernel
theorem dX8_placeOf_28 : decode cX8_placeOf 28 = .ok (.sipush (-999), 3) := by decide +kernel
theorem dX8_placeOf_31 : decode cX8_placeOf 31 = .ok (.ireturn, 1) := by decide +kernel
theorem dX8_isOfWay_0 : decode cX8_isOfWay 0 = .ok (.aload_n 0, 1) := by decide +kernel
theorem dX8_isOfWay_1 : decode cX8_isOfWay 1 = .ok (.aload_n 1, 1) := by decide +kernel
theorem dX8_isOfWay_2 : decode cX8_isOfWay 2 = .ok (.iconst 4, 1) := by decide +kernel
theorem dX8_isOfWay_3 : decode cX8_isOfWay 3 = .ok (.iload_n 2, 1) := by decide +kernel
theorem dX8_isOfWay_4 : decode cX8_isOfWay 4 = .ok (.iadd, 1) := by decide +kernel
theorem dX8_isOfWay_5 : decode cX8_isOfWay 5 = .ok (.iaload, 1) := by decide +kernel
theorem dX8_isOfWay_6 : decode cX8_isOfWay 6 = .ok (.invokevirtual 95, 3) := by decide +kernel
theorem dX8_isOfWay_9 : decode cX8_isOfWay 9 = .ok (.istore_n 3, 1) := by decide +kernel
theorem dX8_isOfWay_10 : decode cX8_isOfWay 10 = .ok (.aload_n 0, 1) := by decide +kernel
theorem dX8_isOfWay_11 : decode cX8_isOfWay 11 = .ok (.aload_n 1, 1) := by decide +kernel
theorem dX8_isOfWay_12 : decode cX8_isOfWay 12 = .ok (.bipush 24, 2) := by decide +kernel
theorem dX8_isOfWay_14 : decode cX8_isOfWay 14 = .ok (.iload_n 2, 1) := by decide +kernel
theorem dX8_isOfWay_15 : decode cX8_isOfWay 15 = .ok (.iadd, 1) := by decide +kernel
theorem dX8_isOfWay_16 : decode cX8_isOfWay 16 = .ok (.iaload, 1) := by decide +kernel
theorem dX8_isOfWay_17 : decode cX8_isOfWay 17 = .ok (.invokevirtual 95, 3) := by decide +kernel
theorem dX8_isOfWay_20 : decode cX8_isOfWay 20 = .ok (.istore 4, 2) := by decide +kernel
theorem dX8_isOfWay_22 : decode cX8_isOfWay 22 = .ok (.iload_n 3, 1) := by decide +kernel
theorem dX8_isOfWay_23 : decode cX8_isOfWay 23 = .ok (.sipush (-999), 3) := by decide +kernel
theorem dX8_isOfWay_26 : decode cX8_isOfWay 26 = .ok (.if_icmp .eq 31, 3) := by decide +kernel
theorem dX8_isOfWay_29 : decode cX8_isOfWay 29 = .ok (.iload 4, 2) := by decide +kernel
theorem dX8_isOfWay_31 : decode cX8_isOfWay 31 = .ok (.sipush (-999), 3) := by decide +kernel
theorem dX8_isOfWay_34 : decode cX8_isOfWay 34 = .ok (.if_icmp .eq 23, 3) := by decide +kernel
theorem dX8_isOfWay_37 : decode cX8_isOfWay 37 = .ok (.iload_n 3, 1) := by decide +kernel
theorem dX8_isOfWay_38 : decode cX8_isOfWay 38 = .ok (.iload 4, 2) := by decide +kernel
theorem dX8_isOfWay_40 : decode cX8_isOfWay 40 = .ok (.isub, 1) := by decide +kernel
theorem dX8_isOfWay_41 : decode cX8_isOfWay 41 = .ok (.iconst 1, 1) := by decide +kernel
theorem dX8_isOfWay_42 : decode cX8_isOfWay 42 = .ok (.if_icmp .eq 11, 3) := by decide +kernel
