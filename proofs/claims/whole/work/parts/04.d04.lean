theorem dX8_isOfWay_45 : decode cX8_isOfWay 45 = .ok (.iload 4, 2) := by decide +kernel
theorem dX8_isOfWay_47 : decode cX8_isOfWay 47 = .ok (.iload_n 3, 1) := by decide +kernel
theorem dX8_isOfWay_48 : decode cX8_isOfWay 48 = .ok (.isub, 1) := by decide +kernel
theorem dX8_isOfWay_49 : decode cX8_isOfWay 49 = .ok (.iconst 1, 1) := by decide +kernel
theorem dX8_isOfWay_50 : decode cX8_isOfWay 50 = .ok (.if_icmp .ne 7, 3) := by decide +kernel
theorem dX8_isOfWay_53 : decode cX8_isOfWay 53 = .ok (.iconst 1, 1) := by decide +kernel
theorem dX8_isOfWay_54 : decode cX8_isOfWay 54 = .ok (.goto 4, 3) := by decide +kernel
theorem dX8_isOfWay_57 : decode cX8_isOfWay 57 = .ok (.iconst 0, 1) := by decide +kernel
theorem dX8_isOfWay_58 : decode cX8_isOfWay 58 = .ok (.ireturn, 1) := by decide +kernel
theorem dX8_append_0 : decode cX8_append 0 = .ok (.aload_n 0, 1) := by decide +kernel
theorem dX8_append_1 : decode cX8_append 1 = .ok (.iload_n 1, 1) := by decide +kernel
theorem dX8_append_2 : decode cX8_append 2 = .ok (.i2l, 1) := by decide +kernel
theorem dX8_append_3 : decode cX8_append 3 = .ok (.lconst 0, 1) := by decide +kernel
theorem dX8_append_4 : decode cX8_append 4 = .ok (.ldc2_w 98, 3) := by decide +kernel
theorem dX8_append_7 : decode cX8_append 7 = .ok (.invokestatic 65, 3) := by decide +kernel
theorem dX8_append_10 : decode cX8_append 10 = .ok (.ifCond .ne 7, 3) := by decide +kernel
theorem dX8_append_13 : decode cX8_append 13 = .ok (.iconst 1, 1) := by decide +kernel
theorem dX8_append_14 : decode cX8_append 14 = .ok (.goto 18, 3) := by decide +kernel
theorem dX8_append_17 : decode cX8_append 17 = .ok (.aload_n 0, 1) := by decide +kernel
theorem dX8_append_18 : decode cX8_append 18 = .ok (.getfield 100, 3) := by decide +kernel
theorem dX8_append_21 : decode cX8_append 21 = .ok (.sipush 140, 3) := by decide +kernel
theorem dX8_append_24 : decode cX8_append 24 = .ok (.if_icmp .ne 7, 3) := by decide +kernel
theorem dX8_append_27 : decode cX8_append 27 = .ok (.iconst 2, 1) := by decide +kernel
theorem dX8_append_28 : decode cX8_append 28 = .ok (.goto 4, 3) := by decide +kernel
theorem dX8_append_31 : decode cX8_append 31 = .ok (.iconst 0, 1) := by decide +kernel
theorem dX8_append_32 : decode cX8_append 32 = .ok (.invokevirtual 103, 3) := by decide +kernel
theorem dX8_append_35 : decode cX8_append 35 = .ok (.ifCond .eq 5, 3) := by decide +kernel
theorem dX8_append_38 : decode cX8_append 38 = .ok (.iconst 0, 1) := by decide +kernel
theorem dX8_append_39 : decode cX8_append 39 = .ok (.ireturn, 1) := by decide +kernel
theorem dX8_append_40 : decode cX8_append 40 = .ok (.aload_n 0, 1) := by decide +kernel
theorem dX8_append_41 : decode cX8_append 41 = .ok (.getfield 7, 3) := by decide +kernel
theorem dX8_append_44 : decode cX8_append 44 = .ok (.aload_n 0, 1) := by decide +kernel
theorem dX8_append_45 : decode cX8_append 45 = .ok (.getfield 100, 3) := by decide +kernel
theorem dX8_append_48 : decode cX8_append 48 = .ok (.iload_n 1, 1) := by decide +kernel
theorem dX8_append_49 : decode cX8_append 49 = .ok (.iastore, 1) := by decide +kernel
theorem dX8_append_50 : decode cX8_append 50 = .ok (.aload_n 0, 1) := by decide +kernel
theorem dX8_append_51 : decode cX8_append 51 = .ok (.dup, 1) := by decide +kernel
theorem dX8_append_52 : decode cX8_append 52 = .ok (.getfield 100, 3) := by decide +kernel
theorem dX8_append_55 : decode cX8_append 55 = .ok (.iconst 1, 1) := by decide +kernel
theorem dX8_append_56 : decode cX8_append 56 = .ok (.iadd, 1) := by decide +kernel
theorem dX8_append_57 : decode cX8_append 57 = .ok (.putfield 100, 3) := by decide +kernel
theorem dX8_append_60 : decode cX8_append 60 = .ok (.aload_n 0, 1) := by decide +kernel
theorem dX8_append_61 : decode cX8_append 61 = .ok (.getfield 100, 3) := by decide +kernel
theorem dX8_append_64 : decode cX8_append 64 = .ok (.ireturn, 1) := by decide +kernel
theorem dX8_clearText_0 : decode cX8_clearText 0 = .ok (.aload_n 0, 1) := by decide +kernel
theorem dX8_clearText_1 : decode cX8_clearText 1 = .ok (.getfield 100, 3) := by decide +kernel
theorem dX8_clearText_4 : decode cX8_clearText 4 = .ok (.istore_n 1, 1) := by decide +kernel
theorem dX8_clearText_5 : decode cX8_clearText 5 = .ok (.aload_n 0, 1) := by decide +kernel
theorem dX8_clearText_6 : decode cX8_clearText 6 = .ok (.iconst 0, 1) := by decide +kernel
theorem dX8_clearText_7 : decode cX8_clearText 7 = .ok (.putfield 100, 3) := by decide +kernel
theorem dX8_clearText_10 : decode cX8_clearText 10 = .ok (.iload_n 1, 1) := by decide +kernel
theorem dX8_clearText_11 : decode cX8_clearText 11 = .ok (.ireturn, 1) := by decide +kernel
theorem dX8_digit_0 : decode cX8_digit 0 = .ok (.aload_n 0, 1) := by decide +kernel
theorem dX8_digit_1 : decode cX8_digit 1 = .ok (.getfield 107, 3) := by decide +kernel
theorem dX8_digit_4 : decode cX8_digit 4 = .ok (.aload_n 0, 1) := by decide +kernel
theorem dX8_digit_5 : decode cX8_digit 5 = .ok (.getfield 100, 3) := by decide +kernel
theorem dX8_digit_8 : decode cX8_digit 8 = .ok (.if_icmp .ge 18, 3) := by decide +kernel
theorem dX8_digit_11 : decode cX8_digit 11 = .ok (.aload_n 0, 1) := by decide +kernel
theorem dX8_digit_12 : decode cX8_digit 12 = .ok (.getfield 7, 3) := by decide +kernel
theorem dX8_digit_15 : decode cX8_digit 15 = .ok (.aload_n 0, 1) := by decide +kernel
theorem dX8_digit_16 : decode cX8_digit 16 = .ok (.getfield 107, 3) := by decide +kernel
theorem dX8_digit_19 : decode cX8_digit 19 = .ok (.iaload, 1) := by decide +kernel
theorem dX8_digit_20 : decode cX8_digit 20 = .ok (.bipush 48, 2) := by decide +kernel
theorem dX8_digit_22 : decode cX8_digit 22 = .ok (.isub, 1) := by decide +kernel
theorem dX8_digit_23 : decode cX8_digit 23 = .ok (.goto 6, 3) := by decide +kernel
theorem dX8_digit_26 : decode cX8_digit 26 = .ok (.sipush (-999), 3) := by decide +kernel
theorem dX8_digit_29 : decode cX8_digit 29 = .ok (.istore_n 3, 1) := by decide +kernel
theorem dX8_digit_30 : decode cX8_digit 30 = .ok (.iload_n 3, 1) := by decide +kernel
theorem dX8_digit_31 : decode cX8_digit 31 = .ok (.i2l, 1) := by decide +kernel
theorem dX8_digit_32 : decode cX8_digit 32 = .ok (.iload_n 1, 1) := by decide +kernel
theorem dX8_digit_33 : decode cX8_digit 33 = .ok (.i2l, 1) := by decide +kernel
theorem dX8_digit_34 : decode cX8_digit 34 = .ok (.iload_n 2, 1) := by decide +kernel
theorem dX8_digit_35 : decode cX8_digit 35 = .ok (.i2l, 1) := by decide +kernel
theorem dX8_digit_36 : decode cX8_digit 36 = .ok (.invokestatic 65, 3) := by decide +kernel
theorem dX8_digit_39 : decode cX8_digit 39 = .ok (.ifCond .ne 7, 3) := by decide +kernel
theorem dX8_digit_42 : decode cX8_digit 42 = .ok (.sipush (-999), 3) := by decide +kernel
theorem dX8_digit_45 : decode cX8_digit 45 = .ok (.ireturn, 1) := by decide +kernel
theorem dX8_digit_46 : decode cX8_digit 46 = .ok (.aload_n 0, 1) := by decide +kernel
theorem dX8_digit_47 : decode cX8_digit 47 = .ok (.dup, 1) := by decide +kernel
theorem dX8_digit_48 : decode cX8_digit 48 = .ok (.getfield 107, 3) := by decide +kernel
theorem dX8_digit_51 : decode cX8_digit 51 = .ok (.iconst 1, 1) := by decide +kernel
theorem dX8_digit_52 : decode cX8_digit 52 = .ok (.iadd, 1) := by decide +kernel
theorem dX8_digit_53 : decode cX8_digit 53 = .ok (.putfield 107, 3) := by decide +kernel
theorem dX8_digit_56 : decode cX8_digit 56 = .ok (.iload_n 3, 1) := by decide +kernel
theorem dX8_digit_57 : decode cX8_digit 57 = .ok (.ireturn, 1) := by decide +kernel
theorem dX8_readStreet_0 : decode cX8_readStreet 0 = .ok (.aload_n 0, 1) := by decide +kernel
theorem dX8_readStreet_1 : decode cX8_readStreet 1 = .ok (.getfield 13, 3) := by decide +kernel
theorem dX8_readStreet_4 : decode cX8_readStreet 4 = .ok (.iconst 0, 1) := by decide +kernel
theorem dX8_readStreet_5 : decode cX8_readStreet 5 = .ok (.iaload, 1) := by decide +kernel
theorem dX8_readStreet_6 : decode cX8_readStreet 6 = .ok (.istore_n 1, 1) := by decide +kernel
theorem dX8_readStreet_7 : decode cX8_readStreet 7 = .ok (.aload_n 0, 1) := by decide +kernel
theorem dX8_readStreet_8 : decode cX8_readStreet 8 = .ok (.iconst 0, 1) := by decide +kernel
theorem dX8_readStreet_9 : decode cX8_readStreet 9 = .ok (.iload_n 1, 1) := by decide +kernel
theorem dX8_readStreet_10 : decode cX8_readStreet 10 = .ok (.iconst 1, 1) := by decide +kernel
theorem dX8_readStreet_11 : decode cX8_readStreet 11 = .ok (.isub, 1) := by decide +kernel
theorem dX8_readStreet_12 : decode cX8_readStreet 12 = .ok (.invokevirtual 110, 3) := by decide +kernel
theorem dX8_readStreet_15 : decode cX8_readStreet 15 = .ok (.istore_n 2, 1) := by decide +kernel
theorem dX8_readStreet_16 : decode cX8_readStreet 16 = .ok (.iload_n 2, 1) := by decide +kernel
theorem dX8_readStreet_17 : decode cX8_readStreet 17 = .ok (.sipush (-999), 3) := by decide +kernel
theorem dX8_readStreet_20 : decode cX8_readStreet 20 = .ok (.if_icmp .eq 32, 3) := by decide +kernel
theorem dX8_readStreet_23 : decode cX8_readStreet 23 = .ok (.aload_n 0, 1) := by decide +kernel
theorem dX8_readStreet_24 : decode cX8_readStreet 24 = .ok (.getfield 13, 3) := by decide +kernel
theorem dX8_readStreet_27 : decode cX8_readStreet 27 = .ok (.iload_n 2, 1) := by decide +kernel
theorem dX8_readStreet_28 : decode cX8_readStreet 28 = .ok (.iconst 0, 1) := by decide +kernel
theorem dX8_readStreet_29 : decode cX8_readStreet 29 = .ok (.invokestatic 114, 3) := by decide +kernel
theorem dX8_readStreet_32 : decode cX8_readStreet 32 = .ok (.iload_n 1, 1) := by decide +kernel
theorem dX8_readStreet_33 : decode cX8_readStreet 33 = .ok (.iconst 1, 1) := by decide +kernel
theorem dX8_readStreet_34 : decode cX8_readStreet 34 = .ok (.isub, 1) := by decide +kernel
theorem dX8_readStreet_35 : decode cX8_readStreet 35 = .ok (.if_icmp .ne 17, 3) := by decide +kernel
theorem dX8_readStreet_38 : decode cX8_readStreet 38 = .ok (.aload_n 0, 1) := by decide +kernel
theorem dX8_readStreet_39 : decode cX8_readStreet 39 = .ok (.dup, 1) := by decide +kernel
theorem dX8_readStreet_40 : decode cX8_readStreet 40 = .ok (.getfield 107, 3) := by decide +kernel
theorem dX8_readStreet_43 : decode cX8_readStreet 43 = .ok (.iconst 1, 1) := by decide +kernel
theorem dX8_readStreet_44 : decode cX8_readStreet 44 = .ok (.isub, 1) := by decide +kernel
theorem dX8_readStreet_45 : decode cX8_readStreet 45 = .ok (.putfield 107, 3) := by decide +kernel
theorem dX8_readStreet_48 : decode cX8_readStreet 48 = .ok (.sipush (-999), 3) := by decide +kernel
theorem dX8_readStreet_51 : decode cX8_readStreet 51 = .ok (.istore_n 2, 1) := by decide +kernel
theorem dX8_readStreet_52 : decode cX8_readStreet 52 = .ok (.iload_n 2, 1) := by decide +kernel
theorem dX8_readStreet_53 : decode cX8_readStreet 53 = .ok (.sipush (-999), 3) := by decide +kernel
theorem dX8_readStreet_56 : decode cX8_readStreet 56 = .ok (.if_icmp .ne 5, 3) := by decide +kernel
theorem dX8_readStreet_59 : decode cX8_readStreet 59 = .ok (.iconst 0, 1) := by decide +kernel
theorem dX8_readStreet_60 : decode cX8_readStreet 60 = .ok (.ireturn, 1) := by decide +kernel
theorem dX8_readStreet_61 : decode cX8_readStreet 61 = .ok (.aload_n 0, 1) := by decide +kernel
theorem dX8_readStreet_62 : decode cX8_readStreet 62 = .ok (.iconst 0, 1) := by decide +kernel
theorem dX8_readStreet_63 : decode cX8_readStreet 63 = .ok (.iload_n 1, 1) := by decide +kernel
theorem dX8_readStreet_64 : decode cX8_readStreet 64 = .ok (.iconst 1, 1) := by decide +kernel
theorem dX8_readStreet_65 : decode cX8_readStreet 65 = .ok (.isub, 1) := by decide +kernel
theorem dX8_readStreet_66 : decode cX8_readStreet 66 = .ok (.invokevirtual 110, 3) := by decide +kernel
theorem dX8_readStreet_69 : decode cX8_readStreet 69 = .ok (.istore_n 3, 1) := by decide +kernel
theorem dX8_readStreet_70 : decode cX8_readStreet 70 = .ok (.iload_n 3, 1) := by decide +kernel
theorem dX8_readStreet_71 : decode cX8_readStreet 71 = .ok (.sipush (-999), 3) := by decide +kernel
theorem dX8_readStreet_74 : decode cX8_readStreet 74 = .ok (.if_icmp .eq 37, 3) := by decide +kernel
theorem dX8_readStreet_77 : decode cX8_readStreet 77 = .ok (.iload_n 3, 1) := by decide +kernel
theorem dX8_readStreet_78 : decode cX8_readStreet 78 = .ok (.iload_n 2, 1) := by decide +kernel
theorem dX8_readStreet_79 : decode cX8_readStreet 79 = .ok (.if_icmp .eq 18, 3) := by decide +kernel
theorem dX8_readStreet_82 : decode cX8_readStreet 82 = .ok (.aload_n 0, 1) := by decide +kernel
theorem dX8_readStreet_83 : decode cX8_readStreet 83 = .ok (.getfield 13, 3) := by decide +kernel
theorem dX8_readStreet_86 : decode cX8_readStreet 86 = .ok (.iload_n 2, 1) := by decide +kernel
theorem dX8_readStreet_87 : decode cX8_readStreet 87 = .ok (.iload_n 3, 1) := by decide +kernel
theorem dX8_readStreet_88 : decode cX8_readStreet 88 = .ok (.invokestatic 118, 3) := by decide +kernel
theorem dX8_readStreet_91 : decode cX8_readStreet 91 = .ok (.sipush (-999), 3) := by decide +kernel
theorem dX8_readStreet_94 : decode cX8_readStreet 94 = .ok (.if_icmp .eq 17, 3) := by decide +kernel
theorem dX8_readStreet_97 : decode cX8_readStreet 97 = .ok (.aload_n 0, 1) := by decide +kernel
theorem dX8_readStreet_98 : decode cX8_readStreet 98 = .ok (.dup, 1) := by decide +kernel
theorem dX8_readStreet_99 : decode cX8_readStreet 99 = .ok (.getfield 107, 3) := by decide +kernel
theorem dX8_readStreet_102 : decode cX8_readStreet 102 = .ok (.iconst 1, 1) := by decide +kernel
theorem dX8_readStreet_103 : decode cX8_readStreet 103 = .ok (.isub, 1) := by decide +kernel
theorem dX8_readStreet_104 : decode cX8_readStreet 104 = .ok (.putfield 107, 3) := by decide +kernel
theorem dX8_readStreet_107 : decode cX8_readStreet 107 = .ok (.sipush (-999), 3) := by decide +kernel
theorem dX8_readStreet_110 : decode cX8_readStreet 110 = .ok (.istore_n 3, 1) := by decide +kernel
theorem dX8_readStreet_111 : decode cX8_readStreet 111 = .ok (.iload_n 3, 1) := by decide +kernel
theorem dX8_readStreet_112 : decode cX8_readStreet 112 = .ok (.sipush (-999), 3) := by decide +kernel
theorem dX8_readStreet_115 : decode cX8_readStreet 115 = .ok (.if_icmp .ne 9, 3) := by decide +kernel
theorem dX8_readStreet_118 : decode cX8_readStreet 118 = .ok (.sipush (-999), 3) := by decide +kernel
theorem dX8_readStreet_121 : decode cX8_readStreet 121 = .ok (.goto 10, 3) := by decide +kernel
theorem dX8_readStreet_124 : decode cX8_readStreet 124 = .ok (.aload_n 0, 1) := by decide +kernel
theorem dX8_readStreet_125 : decode cX8_readStreet 125 = .ok (.iconst 0, 1) := by decide +kernel
theorem dX8_readStreet_126 : decode cX8_readStreet 126 = .ok (.bipush 9, 2) := by decide +kernel
theorem dX8_readStreet_128 : decode cX8_readStreet 128 = .ok (.invokevirtual 110, 3) := by decide +kernel
theorem dX8_readStreet_131 : decode cX8_readStreet 131 = .ok (.istore 4, 2) := by decide +kernel
theorem dX8_readStreet_133 : decode cX8_readStreet 133 = .ok (.iload 4, 2) := by decide +kernel
theorem dX8_readStreet_135 : decode cX8_readStreet 135 = .ok (.sipush (-999), 3) := by decide +kernel
theorem dX8_readStreet_138 : decode cX8_readStreet 138 = .ok (.if_icmp .ne 9, 3) := by decide +kernel
theorem dX8_readStreet_141 : decode cX8_readStreet 141 = .ok (.sipush (-999), 3) := by decide +kernel
theorem dX8_readStreet_144 : decode cX8_readStreet 144 = .ok (.goto 19, 3) := by decide +kernel
theorem dX8_readStreet_147 : decode cX8_readStreet 147 = .ok (.aload_n 0, 1) := by decide +kernel
theorem dX8_readStreet_148 : decode cX8_readStreet 148 = .ok (.iload 4, 2) := by decide +kernel
theorem dX8_readStreet_150 : decode cX8_readStreet 150 = .ok (.ifCond .ne 7, 3) := by decide +kernel
theorem dX8_readStreet_153 : decode cX8_readStreet 153 = .ok (.iconst 1, 1) := by decide +kernel
theorem dX8_readStreet_154 : decode cX8_readStreet 154 = .ok (.goto 4, 3) := by decide +kernel
theorem dX8_readStreet_157 : decode cX8_readStreet 157 = .ok (.iconst 0, 1) := by decide +kernel
theorem dX8_readStreet_158 : decode cX8_readStreet 158 = .ok (.bipush 9, 2) := by decide +kernel
theorem dX8_readStreet_160 : decode cX8_readStreet 160 = .ok (.invokevirtual 110, 3) := by decide +kernel
theorem dX8_readStreet_163 : decode cX8_readStreet 163 = .ok (.istore 5, 2) := by decide +kernel
theorem dX8_readStreet_165 : decode cX8_readStreet 165 = .ok (.iload 5, 2) := by decide +kernel
theorem dX8_readStreet_167 : decode cX8_readStreet 167 = .ok (.sipush (-999), 3) := by decide +kernel
theorem dX8_readStreet_170 : decode cX8_readStreet 170 = .ok (.if_icmp .ne 5, 3) := by decide +kernel
theorem dX8_readStreet_173 : decode cX8_readStreet 173 = .ok (.iconst 0, 1) := by decide +kernel
theorem dX8_readStreet_174 : decode cX8_readStreet 174 = .ok (.ireturn, 1) := by decide +kernel
theorem dX8_readStreet_175 : decode cX8_readStreet 175 = .ok (.aload_n 0, 1) := by decide +kernel
theorem dX8_readStreet_176 : decode cX8_readStreet 176 = .ok (.getfield 13, 3) := by decide +kernel
theorem dX8_readStreet_179 : decode cX8_readStreet 179 = .ok (.iload_n 2, 1) := by decide +kernel
theorem dX8_readStreet_180 : decode cX8_readStreet 180 = .ok (.iload_n 3, 1) := by decide +kernel
theorem dX8_readStreet_181 : decode cX8_readStreet 181 = .ok (.bipush 10, 2) := by decide +kernel
theorem dX8_readStreet_183 : decode cX8_readStreet 183 = .ok (.iload 4, 2) := by decide +kernel
theorem dX8_readStreet_185 : decode cX8_readStreet 185 = .ok (.imul, 1) := by decide +kernel
theorem dX8_readStreet_186 : decode cX8_readStreet 186 = .ok (.iload 5, 2) := by decide +kernel
theorem dX8_readStreet_188 : decode cX8_readStreet 188 = .ok (.iadd, 1) := by decide +kernel
theorem dX8_readStreet_189 : decode cX8_readStreet 189 = .ok (.invokestatic 122, 3) := by decide +kernel
theorem dX8_readStreet_192 : decode cX8_readStreet 192 = .ok (.istore 6, 2) := by decide +kernel
theorem dX8_readStreet_194 : decode cX8_readStreet 194 = .ok (.aload_n 0, 1) := by decide +kernel
theorem dX8_readStreet_195 : decode cX8_readStreet 195 = .ok (.getfield 107, 3) := by decide +kernel
theorem dX8_readStreet_198 : decode cX8_readStreet 198 = .ok (.aload_n 0, 1) := by decide +kernel
theorem dX8_readStreet_199 : decode cX8_readStreet 199 = .ok (.getfield 100, 3) := by decide +kernel
theorem dX8_readStreet_202 : decode cX8_readStreet 202 = .ok (.if_icmp .ge 38, 3) := by decide +kernel
theorem dX8_readStreet_205 : decode cX8_readStreet 205 = .ok (.aload_n 0, 1) := by decide +kernel
theorem dX8_readStreet_206 : decode cX8_readStreet 206 = .ok (.getfield 7, 3) := by decide +kernel
theorem dX8_readStreet_209 : decode cX8_readStreet 209 = .ok (.aload_n 0, 1) := by decide +kernel
theorem dX8_readStreet_210 : decode cX8_readStreet 210 = .ok (.getfield 107, 3) := by decide +kernel
theorem dX8_readStreet_213 : decode cX8_readStreet 213 = .ok (.iaload, 1) := by decide +kernel
theorem dX8_readStreet_214 : decode cX8_readStreet 214 = .ok (.bipush 120, 2) := by decide +kernel
theorem dX8_readStreet_216 : decode cX8_readStreet 216 = .ok (.if_icmp .ne 24, 3) := by decide +kernel
theorem dX8_readStreet_219 : decode cX8_readStreet 219 = .ok (.aload_n 0, 1) := by decide +kernel
theorem dX8_readStreet_220 : decode cX8_readStreet 220 = .ok (.getfield 13, 3) := by decide +kernel
theorem dX8_readStreet_223 : decode cX8_readStreet 223 = .ok (.bipush 64, 2) := by decide +kernel
theorem dX8_readStreet_225 : decode cX8_readStreet 225 = .ok (.iload 6, 2) := by decide +kernel
theorem dX8_readStreet_227 : decode cX8_readStreet 227 = .ok (.iadd, 1) := by decide +kernel
theorem dX8_readStreet_228 : decode cX8_readStreet 228 = .ok (.iconst 1, 1) := by decide +kernel
theorem dX8_readStreet_229 : decode cX8_readStreet 229 = .ok (.iastore, 1) := by decide +kernel
theorem dX8_readStreet_230 : decode cX8_readStreet 230 = .ok (.aload_n 0, 1) := by decide +kernel
theorem dX8_readStreet_231 : decode cX8_readStreet 231 = .ok (.dup, 1) := by decide +kernel
theorem dX8_readStreet_232 : decode cX8_readStreet 232 = .ok (.getfield 107, 3) := by decide +kernel
theorem dX8_readStreet_235 : decode cX8_readStreet 235 = .ok (.iconst 1, 1) := by decide +kernel
theorem dX8_readStreet_236 : decode cX8_readStreet 236 = .ok (.iadd, 1) := by decide +kernel
theorem dX8_readStreet_237 : decode cX8_readStreet 237 = .ok (.putfield 107, 3) := by decide +kernel
theorem dX8_readStreet_240 : decode cX8_readStreet 240 = .ok (.iconst 1, 1) := by decide +kernel
theorem dX8_readStreet_241 : decode cX8_readStreet 241 = .ok (.ireturn, 1) := by decide +kernel
theorem dX8_readTown_0 : decode cX8_readTown 0 = .ok (.aload_n 0, 1) := by decide +kernel
theorem dX8_readTown_1 : decode cX8_readTown 1 = .ok (.iconst 0, 1) := by decide +kernel
theorem dX8_readTown_2 : decode cX8_readTown 2 = .ok (.putfield 107, 3) := by decide +kernel
theorem dX8_readTown_5 : decode cX8_readTown 5 = .ok (.aload_n 0, 1) := by decide +kernel
theorem dX8_readTown_6 : decode cX8_readTown 6 = .ok (.getfield 100, 3) := by decide +kernel
theorem dX8_readTown_9 : decode cX8_readTown 9 = .ok (.ifCond .eq 14, 3) := by decide +kernel
theorem dX8_readTown_12 : decode cX8_readTown 12 = .ok (.aload_n 0, 1) := by decide +kernel
theorem dX8_readTown_13 : decode cX8_readTown 13 = .ok (.getfield 7, 3) := by decide +kernel
theorem dX8_readTown_16 : decode cX8_readTown 16 = .ok (.iconst 0, 1) := by decide +kernel
theorem dX8_readTown_17 : decode cX8_readTown 17 = .ok (.iaload, 1) := by decide +kernel
theorem dX8_readTown_18 : decode cX8_readTown 18 = .ok (.bipush 84, 2) := by decide +kernel
theorem dX8_readTown_20 : decode cX8_readTown 20 = .ok (.if_icmp .eq 5, 3) := by decide +kernel
theorem dX8_readTown_23 : decode cX8_readTown 23 = .ok (.iconst 0, 1) := by decide +kernel
theorem dX8_readTown_24 : decode cX8_readTown 24 = .ok (.ireturn, 1) := by decide +kernel
theorem dX8_readTown_25 : decode cX8_readTown 25 = .ok (.aload_n 0, 1) := by decide +kernel
theorem dX8_readTown_26 : decode cX8_readTown 26 = .ok (.iconst 1, 1) := by decide +kernel
theorem dX8_readTown_27 : decode cX8_readTown 27 = .ok (.putfield 107, 3) := by decide +kernel
theorem dX8_readTown_30 : decode cX8_readTown 30 = .ok (.aload_n 0, 1) := by decide +kernel
theorem dX8_readTown_31 : decode cX8_readTown 31 = .ok (.iconst 2, 1) := by decide +kernel
theorem dX8_readTown_32 : decode cX8_readTown 32 = .ok (.bipush 9, 2) := by decide +kernel
theorem dX8_readTown_34 : decode cX8_readTown 34 = .ok (.invokevirtual 110, 3) := by decide +kernel
theorem dX8_readTown_37 : decode cX8_readTown 37 = .ok (.istore_n 1, 1) := by decide +kernel
theorem dX8_readTown_38 : decode cX8_readTown 38 = .ok (.iload_n 1, 1) := by decide +kernel
theorem dX8_readTown_39 : decode cX8_readTown 39 = .ok (.sipush (-999), 3) := by decide +kernel
theorem dX8_readTown_42 : decode cX8_readTown 42 = .ok (.if_icmp .ne 5, 3) := by decide +kernel
theorem dX8_readTown_45 : decode cX8_readTown 45 = .ok (.iconst 0, 1) := by decide +kernel
theorem dX8_readTown_46 : decode cX8_readTown 46 = .ok (.ireturn, 1) := by decide +kernel
theorem dX8_readTown_47 : decode cX8_readTown 47 = .ok (.aload_n 0, 1) := by decide +kernel
theorem dX8_readTown_48 : decode cX8_readTown 48 = .ok (.getfield 13, 3) := by decide +kernel
theorem dX8_readTown_51 : decode cX8_readTown 51 = .ok (.iload_n 1, 1) := by decide +kernel
theorem dX8_readTown_52 : decode cX8_readTown 52 = .ok (.invokestatic 53, 3) := by decide +kernel
theorem dX8_readTown_55 : decode cX8_readTown 55 = .ok (.aload_n 0, 1) := by decide +kernel
theorem dX8_readTown_56 : decode cX8_readTown 56 = .ok (.iconst 0, 1) := by decide +kernel
theorem dX8_readTown_57 : decode cX8_readTown 57 = .ok (.iload_n 1, 1) := by decide +kernel
theorem dX8_readTown_58 : decode cX8_readTown 58 = .ok (.iconst 1, 1) := by decide +kernel
theorem dX8_readTown_59 : decode cX8_readTown 59 = .ok (.isub, 1) := by decide +kernel
theorem dX8_readTown_60 : decode cX8_readTown 60 = .ok (.invokevirtual 110, 3) := by decide +kernel
theorem dX8_readTown_63 : decode cX8_readTown 63 = .ok (.istore_n 2, 1) := by decide +kernel
theorem dX8_readTown_64 : decode cX8_readTown 64 = .ok (.iload_n 2, 1) := by decide +kernel
theorem dX8_readTown_65 : decode cX8_readTown 65 = .ok (.sipush (-999), 3) := by decide +kernel
theorem dX8_readTown_68 : decode cX8_readTown 68 = .ok (.if_icmp .ne 5, 3) := by decide +kernel
theorem dX8_readTown_71 : decode cX8_readTown 71 = .ok (.iconst 0, 1) := by decide +kernel
theorem dX8_readTown_72 : decode cX8_readTown 72 = .ok (.ireturn, 1) := by decide +kernel
theorem dX8_readTown_73 : decode cX8_readTown 73 = .ok (.aload_n 0, 1) := by decide +kernel
theorem dX8_readTown_74 : decode cX8_readTown 74 = .ok (.iconst 0, 1) := by decide +kernel
theorem dX8_readTown_75 : decode cX8_readTown 75 = .ok (.iload_n 1, 1) := by decide +kernel
theorem dX8_readTown_76 : decode cX8_readTown 76 = .ok (.iconst 1, 1) := by decide +kernel
theorem dX8_readTown_77 : decode cX8_readTown 77 = .ok (.isub, 1) := by decide +kernel
theorem dX8_readTown_78 : decode cX8_readTown 78 = .ok (.invokevirtual 110, 3) := by decide +kernel
theorem dX8_readTown_81 : decode cX8_readTown 81 = .ok (.istore_n 3, 1) := by decide +kernel
theorem dX8_readTown_82 : decode cX8_readTown 82 = .ok (.iload_n 3, 1) := by decide +kernel
theorem dX8_readTown_83 : decode cX8_readTown 83 = .ok (.iload_n 2, 1) := by decide +kernel
theorem dX8_readTown_84 : decode cX8_readTown 84 = .ok (.if_icmp .ne 15, 3) := by decide +kernel
theorem dX8_readTown_87 : decode cX8_readTown 87 = .ok (.aload_n 0, 1) := by decide +kernel
theorem dX8_readTown_88 : decode cX8_readTown 88 = .ok (.dup, 1) := by decide +kernel
theorem dX8_readTown_89 : decode cX8_readTown 89 = .ok (.getfield 107, 3) := by decide +kernel
theorem dX8_readTown_92 : decode cX8_readTown 92 = .ok (.iconst 1, 1) := by decide +kernel
theorem dX8_readTown_93 : decode cX8_readTown 93 = .ok (.isub, 1) := by decide +kernel
theorem dX8_readTown_94 : decode cX8_readTown 94 = .ok (.putfield 107, 3) := by decide +kernel
theorem dX8_readTown_97 : decode cX8_readTown 97 = .ok (.iconst 0, 1) := by decide +kernel
theorem dX8_readTown_98 : decode cX8_readTown 98 = .ok (.ireturn, 1) := by decide +kernel
theorem dX8_readTown_99 : decode cX8_readTown 99 = .ok (.aload_n 0, 1) := by decide +kernel
theorem dX8_readTown_100 : decode cX8_readTown 100 = .ok (.getfield 13, 3) := by decide +kernel
theorem dX8_readTown_103 : decode cX8_readTown 103 = .ok (.iconst 2, 1) := by decide +kernel
theorem dX8_readTown_104 : decode cX8_readTown 104 = .ok (.iload_n 2, 1) := by decide +kernel
theorem dX8_readTown_105 : decode cX8_readTown 105 = .ok (.iastore, 1) := by decide +kernel
theorem dX8_readTown_106 : decode cX8_readTown 106 = .ok (.aload_n 0, 1) := by decide +kernel
theorem dX8_readTown_107 : decode cX8_readTown 107 = .ok (.getfield 13, 3) := by decide +kernel
theorem dX8_readTown_110 : decode cX8_readTown 110 = .ok (.iconst 3, 1) := by decide +kernel
theorem dX8_readTown_111 : decode cX8_readTown 111 = .ok (.iload_n 3, 1) := by decide +kernel
theorem dX8_readTown_112 : decode cX8_readTown 112 = .ok (.iastore, 1) := by decide +kernel
theorem dX8_readTown_113 : decode cX8_readTown 113 = .ok (.iload_n 3, 1) := by decide +kernel
theorem dX8_readTown_114 : decode cX8_readTown 114 = .ok (.sipush (-999), 3) := by decide +kernel
theorem dX8_readTown_117 : decode cX8_readTown 117 = .ok (.if_icmp .eq 7, 3) := by decide +kernel
theorem dX8_readTown_120 : decode cX8_readTown 120 = .ok (.iconst 1, 1) := by decide +kernel
theorem dX8_readTown_121 : decode cX8_readTown 121 = .ok (.goto 4, 3) := by decide +kernel
theorem dX8_readTown_124 : decode cX8_readTown 124 = .ok (.iconst 0, 1) := by decide +kernel
theorem dX8_readTown_125 : decode cX8_readTown 125 = .ok (.istore 4, 2) := by decide +kernel
theorem dX8_readTown_127 : decode cX8_readTown 127 = .ok (.iload 4, 2) := by decide +kernel
theorem dX8_readTown_129 : decode cX8_readTown 129 = .ok (.ifCond .eq 86, 3) := by decide +kernel
theorem dX8_readTown_132 : decode cX8_readTown 132 = .ok (.aload_n 0, 1) := by decide +kernel
theorem dX8_readTown_133 : decode cX8_readTown 133 = .ok (.getfield 107, 3) := by decide +kernel
theorem dX8_readTown_136 : decode cX8_readTown 136 = .ok (.aload_n 0, 1) := by decide +kernel
theorem dX8_readTown_137 : decode cX8_readTown 137 = .ok (.getfield 100, 3) := by decide +kernel
theorem dX8_readTown_140 : decode cX8_readTown 140 = .ok (.if_icmp .ge 75, 3) := by decide +kernel
theorem dX8_readTown_143 : decode cX8_readTown 143 = .ok (.aload_n 0, 1) := by decide +kernel
theorem dX8_readTown_144 : decode cX8_readTown 144 = .ok (.getfield 7, 3) := by decide +kernel
theorem dX8_readTown_147 : decode cX8_readTown 147 = .ok (.aload_n 0, 1) := by decide +kernel
theorem dX8_readTown_148 : decode cX8_readTown 148 = .ok (.getfield 107, 3) := by decide +kernel
theorem dX8_readTown_151 : decode cX8_readTown 151 = .ok (.iaload, 1) := by decide +kernel
theorem dX8_readTown_152 : decode cX8_readTown 152 = .ok (.bipush 115, 2) := by decide +kernel
theorem dX8_readTown_154 : decode cX8_readTown 154 = .ok (.if_icmp .ne 34, 3) := by decide +kernel
theorem dX8_readTown_157 : decode cX8_readTown 157 = .ok (.aload_n 0, 1) := by decide +kernel
theorem dX8_readTown_158 : decode cX8_readTown 158 = .ok (.getfield 13, 3) := by decide +kernel
theorem dX8_readTown_161 : decode cX8_readTown 161 = .ok (.iconst 1, 1) := by decide +kernel
theorem dX8_readTown_162 : decode cX8_readTown 162 = .ok (.iaload, 1) := by decide +kernel
theorem dX8_readTown_163 : decode cX8_readTown 163 = .ok (.bipush 20, 2) := by decide +kernel
theorem dX8_readTown_165 : decode cX8_readTown 165 = .ok (.if_icmp .ge 23, 3) := by decide +kernel
theorem dX8_readTown_168 : decode cX8_readTown 168 = .ok (.iconst 2, 1) := by decide +kernel
theorem dX8_readTown_169 : decode cX8_readTown 169 = .ok (.aload_n 0, 1) := by decide +kernel
theorem dX8_readTown_170 : decode cX8_readTown 170 = .ok (.getfield 13, 3) := by decide +kernel
theorem dX8_readTown_173 : decode cX8_readTown 173 = .ok (.iconst 1, 1) := by decide +kernel
theorem dX8_readTown_174 : decode cX8_readTown 174 = .ok (.iaload, 1) := by decide +kernel
theorem dX8_readTown_175 : decode cX8_readTown 175 = .ok (.imul, 1) := by decide +kernel
theorem dX8_readTown_176 : decode cX8_readTown 176 = .ok (.iload_n 1, 1) := by decide +kernel
theorem dX8_readTown_177 : decode cX8_readTown 177 = .ok (.iload_n 1, 1) := by decide +kernel
theorem dX8_readTown_178 : decode cX8_readTown 178 = .ok (.iconst 1, 1) := by decide +kernel
theorem dX8_readTown_179 : decode cX8_readTown 179 = .ok (.isub, 1) := by decide +kernel
theorem dX8_readTown_180 : decode cX8_readTown 180 = .ok (.imul, 1) := by decide +kernel
theorem dX8_readTown_181 : decode cX8_readTown 181 = .ok (.if_icmp .ge 7, 3) := by decide +kernel
theorem dX8_readTown_184 : decode cX8_readTown 184 = .ok (.iconst 1, 1) := by decide +kernel
theorem dX8_readTown_185 : decode cX8_readTown 185 = .ok (.goto 4, 3) := by decide +kernel
theorem dX8_readTown_188 : decode cX8_readTown 188 = .ok (.iconst 0, 1) := by decide +kernel
theorem dX8_readTown_189 : decode cX8_readTown 189 = .ok (.istore 4, 2) := by decide +kernel
theorem dX8_readTown_191 : decode cX8_readTown 191 = .ok (.iload 4, 2) := by decide +kernel
theorem dX8_readTown_193 : decode cX8_readTown 193 = .ok (.ifCond .eq (-66), 3) := by decide +kernel
theorem dX8_readTown_196 : decode cX8_readTown 196 = .ok (.aload_n 0, 1) := by decide +kernel
theorem dX8_readTown_197 : decode cX8_readTown 197 = .ok (.dup, 1) := by decide +kernel
theorem dX8_readTown_198 : decode cX8_readTown 198 = .ok (.getfield 107, 3) := by decide +kernel
theorem dX8_readTown_201 : decode cX8_readTown 201 = .ok (.iconst 1, 1) := by decide +kernel
theorem dX8_readTown_202 : decode cX8_readTown 202 = .ok (.iadd, 1) := by decide +kernel
theorem dX8_readTown_203 : decode cX8_readTown 203 = .ok (.putfield 107, 3) := by decide +kernel
theorem dX8_readTown_206 : decode cX8_readTown 206 = .ok (.aload_n 0, 1) := by decide +kernel
theorem dX8_readTown_207 : decode cX8_readTown 207 = .ok (.invokevirtual 126, 3) := by decide +kernel
theorem dX8_readTown_210 : decode cX8_readTown 210 = .ok (.istore 4, 2) := by decide +kernel
theorem dX8_readTown_212 : decode cX8_readTown 212 = .ok (.goto (-85), 3) := by decide +kernel
theorem dX8_readTown_215 : decode cX8_readTown 215 = .ok (.iload 4, 2) := by decide +kernel
theorem dX8_readTown_217 : decode cX8_readTown 217 = .ok (.ireturn, 1) := by decide +kernel
theorem dX8_readWord_0 : decode cX8_readWord 0 = .ok (.aload_n 0, 1) := by decide +kernel
theorem dX8_readWord_1 : decode cX8_readWord 1 = .ok (.iconst 0, 1) := by decide +kernel
theorem dX8_readWord_2 : decode cX8_readWord 2 = .ok (.putfield 130, 3) := by decide +kernel
theorem dX8_readWord_5 : decode cX8_readWord 5 = .ok (.aload_n 0, 1) := by decide +kernel
theorem dX8_readWord_6 : decode cX8_readWord 6 = .ok (.getfield 130, 3) := by decide +kernel
theorem dX8_readWord_9 : decode cX8_readWord 9 = .ok (.iconst 5, 1) := by decide +kernel
theorem dX8_readWord_10 : decode cX8_readWord 10 = .ok (.if_icmp .ge 50, 3) := by decide +kernel
theorem dX8_readWord_13 : decode cX8_readWord 13 = .ok (.aload_n 0, 1) := by decide +kernel
theorem dX8_readWord_14 : decode cX8_readWord 14 = .ok (.getfield 107, 3) := by decide +kernel
theorem dX8_readWord_17 : decode cX8_readWord 17 = .ok (.aload_n 0, 1) := by decide +kernel
theorem dX8_readWord_18 : decode cX8_readWord 18 = .ok (.getfield 100, 3) := by decide +kernel
theorem dX8_readWord_21 : decode cX8_readWord 21 = .ok (.if_icmp .eq 26, 3) := by decide +kernel
theorem dX8_readWord_24 : decode cX8_readWord 24 = .ok (.aload_n 0, 1) := by decide +kernel
theorem dX8_readWord_25 : decode cX8_readWord 25 = .ok (.getfield 32, 3) := by decide +kernel
theorem dX8_readWord_28 : decode cX8_readWord 28 = .ok (.iconst 5, 1) := by decide +kernel
theorem dX8_readWord_29 : decode cX8_readWord 29 = .ok (.aload_n 0, 1) := by decide +kernel
theorem dX8_readWord_30 : decode cX8_readWord 30 = .ok (.getfield 130, 3) := by decide +kernel
theorem dX8_readWord_33 : decode cX8_readWord 33 = .ok (.imul, 1) := by decide +kernel
theorem dX8_readWord_34 : decode cX8_readWord 34 = .ok (.iaload, 1) := by decide +kernel
theorem dX8_readWord_35 : decode cX8_readWord 35 = .ok (.aload_n 0, 1) := by decide +kernel
theorem dX8_readWord_36 : decode cX8_readWord 36 = .ok (.getfield 7, 3) := by decide +kernel
theorem dX8_readWord_39 : decode cX8_readWord 39 = .ok (.aload_n 0, 1) := by decide +kernel
theorem dX8_readWord_40 : decode cX8_readWord 40 = .ok (.getfield 107, 3) := by decide +kernel
theorem dX8_readWord_43 : decode cX8_readWord 43 = .ok (.iaload, 1) := by decide +kernel
theorem dX8_readWord_44 : decode cX8_readWord 44 = .ok (.if_icmp .eq 16, 3) := by decide +kernel
theorem dX8_readWord_47 : decode cX8_readWord 47 = .ok (.aload_n 0, 1) := by decide +kernel
theorem dX8_readWord_48 : decode cX8_readWord 48 = .ok (.dup, 1) := by decide +kernel
theorem dX8_readWord_49 : decode cX8_readWord 49 = .ok (.getfield 130, 3) := by decide +kernel
theorem dX8_readWord_52 : decode cX8_readWord 52 = .ok (.iconst 1, 1) := by decide +kernel
theorem dX8_readWord_53 : decode cX8_readWord 53 = .ok (.iadd, 1) := by decide +kernel
theorem dX8_readWord_54 : decode cX8_readWord 54 = .ok (.putfield 130, 3) := by decide +kernel
theorem dX8_readWord_57 : decode cX8_readWord 57 = .ok (.goto (-52), 3) := by decide +kernel
theorem dX8_readWord_60 : decode cX8_readWord 60 = .ok (.aload_n 0, 1) := by decide +kernel
theorem dX8_readWord_61 : decode cX8_readWord 61 = .ok (.getfield 130, 3) := by decide +kernel
theorem dX8_readWord_64 : decode cX8_readWord 64 = .ok (.iconst 5, 1) := by decide +kernel
theorem dX8_readWord_65 : decode cX8_readWord 65 = .ok (.if_icmp .ne 5, 3) := by decide +kernel
theorem dX8_readWord_68 : decode cX8_readWord 68 = .ok (.iconst 0, 1) := by decide +kernel
theorem dX8_readWord_69 : decode cX8_readWord 69 = .ok (.ireturn, 1) := by decide +kernel
theorem dX8_readWord_70 : decode cX8_readWord 70 = .ok (.iconst 0, 1) := by decide +kernel
theorem dX8_readWord_71 : decode cX8_readWord 71 = .ok (.istore_n 1, 1) := by decide +kernel
theorem dX8_readWord_72 : decode cX8_readWord 72 = .ok (.iload_n 1, 1) := by decide +kernel
theorem dX8_readWord_73 : decode cX8_readWord 73 = .ok (.iconst 5, 1) := by decide +kernel
theorem dX8_readWord_74 : decode cX8_readWord 74 = .ok (.if_icmp .ge 73, 3) := by decide +kernel
theorem dX8_readWord_77 : decode cX8_readWord 77 = .ok (.aload_n 0, 1) := by decide +kernel
theorem dX8_readWord_78 : decode cX8_readWord 78 = .ok (.getfield 32, 3) := by decide +kernel
theorem dX8_readWord_81 : decode cX8_readWord 81 = .ok (.iconst 5, 1) := by decide +kernel
theorem dX8_readWord_82 : decode cX8_readWord 82 = .ok (.aload_n 0, 1) := by decide +kernel
theorem dX8_readWord_83 : decode cX8_readWord 83 = .ok (.getfield 130, 3) := by decide +kernel
theorem dX8_readWord_86 : decode cX8_readWord 86 = .ok (.imul, 1) := by decide +kernel
theorem dX8_readWord_87 : decode cX8_readWord 87 = .ok (.iload_n 1, 1) := by decide +kernel
theorem dX8_readWord_88 : decode cX8_readWord 88 = .ok (.iadd, 1) := by decide +kernel
theorem dX8_readWord_89 : decode cX8_readWord 89 = .ok (.iaload, 1) := by decide +kernel
theorem dX8_readWord_90 : decode cX8_readWord 90 = .ok (.ifCond .eq 57, 3) := by decide +kernel
theorem dX8_readWord_93 : decode cX8_readWord 93 = .ok (.aload_n 0, 1) := by decide +kernel
theorem dX8_readWord_94 : decode cX8_readWord 94 = .ok (.getfield 107, 3) := by decide +kernel
theorem dX8_readWord_97 : decode cX8_readWord 97 = .ok (.aload_n 0, 1) := by decide +kernel
theorem dX8_readWord_98 : decode cX8_readWord 98 = .ok (.getfield 100, 3) := by decide +kernel
theorem dX8_readWord_101 : decode cX8_readWord 101 = .ok (.if_icmp .eq 28, 3) := by decide +kernel
theorem dX8_readWord_104 : decode cX8_readWord 104 = .ok (.aload_n 0, 1) := by decide +kernel
theorem dX8_readWord_105 : decode cX8_readWord 105 = .ok (.getfield 7, 3) := by decide +kernel
theorem dX8_readWord_108 : decode cX8_readWord 108 = .ok (.aload_n 0, 1) := by decide +kernel
theorem dX8_readWord_109 : decode cX8_readWord 109 = .ok (.getfield 107, 3) := by decide +kernel
theorem dX8_readWord_112 : decode cX8_readWord 112 = .ok (.iaload, 1) := by decide +kernel
theorem dX8_readWord_113 : decode cX8_readWord 113 = .ok (.aload_n 0, 1) := by decide +kernel
theorem dX8_readWord_114 : decode cX8_readWord 114 = .ok (.getfield 32, 3) := by decide +kernel
theorem dX8_readWord_117 : decode cX8_readWord 117 = .ok (.iconst 5, 1) := by decide +kernel
theorem dX8_readWord_118 : decode cX8_readWord 118 = .ok (.aload_n 0, 1) := by decide +kernel
theorem dX8_readWord_119 : decode cX8_readWord 119 = .ok (.getfield 130, 3) := by decide +kernel
theorem dX8_readWord_122 : decode cX8_readWord 122 = .ok (.imul, 1) := by decide +kernel
theorem dX8_readWord_123 : decode cX8_readWord 123 = .ok (.iload_n 1, 1) := by decide +kernel
theorem dX8_readWord_124 : decode cX8_readWord 124 = .ok (.iadd, 1) := by decide +kernel
theorem dX8_readWord_125 : decode cX8_readWord 125 = .ok (.iaload, 1) := by decide +kernel
theorem dX8_readWord_126 : decode cX8_readWord 126 = .ok (.if_icmp .eq 5, 3) := by decide +kernel
theorem dX8_readWord_129 : decode cX8_readWord 129 = .ok (.iconst 0, 1) := by decide +kernel
theorem dX8_readWord_130 : decode cX8_readWord 130 = .ok (.ireturn, 1) := by decide +kernel
theorem dX8_readWord_131 : decode cX8_readWord 131 = .ok (.aload_n 0, 1) := by decide +kernel
theorem dX8_readWord_132 : decode cX8_readWord 132 = .ok (.dup, 1) := by decide +kernel
theorem dX8_readWord_133 : decode cX8_readWord 133 = .ok (.getfield 107, 3) := by decide +kernel
theorem dX8_readWord_136 : decode cX8_readWord 136 = .ok (.iconst 1, 1) := by decide +kernel
theorem dX8_readWord_137 : decode cX8_readWord 137 = .ok (.iadd, 1) := by decide +kernel
theorem dX8_readWord_138 : decode cX8_readWord 138 = .ok (.putfield 107, 3) := by decide +kernel
theorem dX8_readWord_141 : decode cX8_readWord 141 = .ok (.iinc 1 1, 3) := by decide +kernel
theorem dX8_readWord_144 : decode cX8_readWord 144 = .ok (.goto (-72), 3) := by decide +kernel
theorem dX8_readWord_147 : decode cX8_readWord 147 = .ok (.iconst 1, 1) := by decide +kernel
theorem dX8_readWord_148 : decode cX8_readWord 148 = .ok (.ireturn, 1) := by decide +kernel
theorem dX8_readBlank_0 : decode cX8_readBlank 0 = .ok (.aload_n 0, 1) := by decide +kernel
theorem dX8_readBlank_1 : decode cX8_readBlank 1 = .ok (.getfield 107, 3) := by decide +kernel
theorem dX8_readBlank_4 : decode cX8_readBlank 4 = .ok (.aload_n 0, 1) := by decide +kernel
theorem dX8_readBlank_5 : decode cX8_readBlank 5 = .ok (.getfield 100, 3) := by decide +kernel
theorem dX8_readBlank_8 : decode cX8_readBlank 8 = .ok (.if_icmp .eq 17, 3) := by decide +kernel
theorem dX8_readBlank_11 : decode cX8_readBlank 11 = .ok (.aload_n 0, 1) := by decide +kernel
theorem dX8_readBlank_12 : decode cX8_readBlank 12 = .ok (.getfield 7, 3) := by decide +kernel
theorem dX8_readBlank_15 : decode cX8_readBlank 15 = .ok (.aload_n 0, 1) := by decide +kernel
theorem dX8_readBlank_16 : decode cX8_readBlank 16 = .ok (.getfield 107, 3) := by decide +kernel
theorem dX8_readBlank_19 : decode cX8_readBlank 19 = .ok (.iaload, 1) := by decide +kernel
theorem dX8_readBlank_20 : decode cX8_readBlank 20 = .ok (.bipush 32, 2) := by decide +kernel
theorem dX8_readBlank_22 : decode cX8_readBlank 22 = .ok (.if_icmp .eq 5, 3) := by decide +kernel
theorem dX8_readBlank_25 : decode cX8_readBlank 25 = .ok (.iconst 0, 1) := by decide +kernel
theorem dX8_readBlank_26 : decode cX8_readBlank 26 = .ok (.ireturn, 1) := by decide +kernel
theorem dX8_readBlank_27 : decode cX8_readBlank 27 = .ok (.aload_n 0, 1) := by decide +kernel
theorem dX8_readBlank_28 : decode cX8_readBlank 28 = .ok (.dup, 1) := by decide +kernel
theorem dX8_readBlank_29 : decode cX8_readBlank 29 = .ok (.getfield 107, 3) := by decide +kernel
theorem dX8_readBlank_32 : decode cX8_readBlank 32 = .ok (.iconst 1, 1) := by decide +kernel
theorem dX8_readBlank_33 : decode cX8_readBlank 33 = .ok (.iadd, 1) := by decide +kernel
theorem dX8_readBlank_34 : decode cX8_readBlank 34 = .ok (.putfield 107, 3) := by decide +kernel
theorem dX8_readBlank_37 : decode cX8_readBlank 37 = .ok (.iconst 1, 1) := by decide +kernel
theorem dX8_readBlank_38 : decode cX8_readBlank 38 = .ok (.ireturn, 1) := by decide +kernel
theorem dX8_readNumber_0 : decode cX8_readNumber 0 = .ok (.aload_n 0, 1) := by decide +kernel
theorem dX8_readNumber_1 : decode cX8_readNumber 1 = .ok (.iconst 0, 1) := by decide +kernel
theorem dX8_readNumber_2 : decode cX8_readNumber 2 = .ok (.bipush 9, 2) := by decide +kernel
theorem dX8_readNumber_4 : decode cX8_readNumber 4 = .ok (.invokevirtual 110, 3) := by decide +kernel
theorem dX8_readNumber_7 : decode cX8_readNumber 7 = .ok (.istore_n 1, 1) := by decide +kernel
theorem dX8_readNumber_8 : decode cX8_readNumber 8 = .ok (.iload_n 1, 1) := by decide +kernel
theorem dX8_readNumber_9 : decode cX8_readNumber 9 = .ok (.sipush (-999), 3) := by decide +kernel
theorem dX8_readNumber_12 : decode cX8_readNumber 12 = .ok (.if_icmp .ne 9, 3) := by decide +kernel
theorem dX8_readNumber_15 : decode cX8_readNumber 15 = .ok (.sipush (-999), 3) := by decide +kernel
theorem dX8_readNumber_18 : decode cX8_readNumber 18 = .ok (.goto 10, 3) := by decide +kernel
theorem dX8_readNumber_21 : decode cX8_readNumber 21 = .ok (.aload_n 0, 1) := by decide +kernel
theorem dX8_readNumber_22 : decode cX8_readNumber 22 = .ok (.iconst 0, 1) := by decide +kernel
theorem dX8_readNumber_23 : decode cX8_readNumber 23 = .ok (.bipush 9, 2) := by decide +kernel
theorem dX8_readNumber_25 : decode cX8_readNumber 25 = .ok (.invokevirtual 110, 3) := by decide +kernel
theorem dX8_readNumber_28 : decode cX8_readNumber 28 = .ok (.istore_n 2, 1) := by decide +kernel
theorem dX8_readNumber_29 : decode cX8_readNumber 29 = .ok (.iload_n 2, 1) := by decide +kernel
theorem dX8_readNumber_30 : decode cX8_readNumber 30 = .ok (.sipush (-999), 3) := by decide +kernel
theorem dX8_readNumber_33 : decode cX8_readNumber 33 = .ok (.if_icmp .ne 7, 3) := by decide +kernel
theorem dX8_readNumber_36 : decode cX8_readNumber 36 = .ok (.iload_n 1, 1) := by decide +kernel
theorem dX8_readNumber_37 : decode cX8_readNumber 37 = .ok (.goto 9, 3) := by decide +kernel
theorem dX8_readNumber_40 : decode cX8_readNumber 40 = .ok (.bipush 10, 2) := by decide +kernel
theorem dX8_readNumber_42 : decode cX8_readNumber 42 = .ok (.iload_n 1, 1) := by decide +kernel
theorem dX8_readNumber_43 : decode cX8_readNumber 43 = .ok (.imul, 1) := by decide +kernel
theorem dX8_readNumber_44 : decode cX8_readNumber 44 = .ok (.iload_n 2, 1) := by decide +kernel
theorem dX8_readNumber_45 : decode cX8_readNumber 45 = .ok (.iadd, 1) := by decide +kernel
theorem dX8_readNumber_46 : decode cX8_readNumber 46 = .ok (.ireturn, 1) := by decide +kernel
theorem dX8_readCommand_0 : decode cX8_readCommand 0 = .ok (.aload_n 0, 1) := by decide +kernel
theorem dX8_readCommand_1 : decode cX8_readCommand 1 = .ok (.invokevirtual 133, 3) := by decide +kernel
theorem dX8_readCommand_4 : decode cX8_readCommand 4 = .ok (.ifCond .ne 5, 3) := by decide +kernel
theorem dX8_readCommand_7 : decode cX8_readCommand 7 = .ok (.iconst 0, 1) := by decide +kernel
theorem dX8_readCommand_8 : decode cX8_readCommand 8 = .ok (.ireturn, 1) := by decide +kernel
theorem dX8_readCommand_9 : decode cX8_readCommand 9 = .ok (.aload_n 0, 1) := by decide +kernel
theorem dX8_readCommand_10 : decode cX8_readCommand 10 = .ok (.getfield 130, 3) := by decide +kernel
theorem dX8_readCommand_13 : decode cX8_readCommand 13 = .ok (.iconst 4, 1) := by decide +kernel
theorem dX8_readCommand_14 : decode cX8_readCommand 14 = .ok (.if_icmp .ne 5, 3) := by decide +kernel
theorem dX8_readCommand_17 : decode cX8_readCommand 17 = .ok (.iconst 1, 1) := by decide +kernel
theorem dX8_readCommand_18 : decode cX8_readCommand 18 = .ok (.ireturn, 1) := by decide +kernel
theorem dX8_readCommand_19 : decode cX8_readCommand 19 = .ok (.aload_n 0, 1) := by decide +kernel
theorem dX8_readCommand_20 : decode cX8_readCommand 20 = .ok (.aload_n 0, 1) := by decide +kernel
theorem dX8_readCommand_21 : decode cX8_readCommand 21 = .ok (.invokevirtual 136, 3) := by decide +kernel
theorem dX8_readCommand_24 : decode cX8_readCommand 24 = .ok (.ifCond .eq 10, 3) := by decide +kernel
theorem dX8_readCommand_27 : decode cX8_readCommand 27 = .ok (.aload_n 0, 1) := by decide +kernel
theorem dX8_readCommand_28 : decode cX8_readCommand 28 = .ok (.invokevirtual 139, 3) := by decide +kernel
theorem dX8_readCommand_31 : decode cX8_readCommand 31 = .ok (.goto 6, 3) := by decide +kernel
theorem dX8_readCommand_34 : decode cX8_readCommand 34 = .ok (.sipush (-999), 3) := by decide +kernel
theorem dX8_readCommand_37 : decode cX8_readCommand 37 = .ok (.putfield 143, 3) := by decide +kernel
theorem dX8_readCommand_40 : decode cX8_readCommand 40 = .ok (.aload_n 0, 1) := by decide +kernel
theorem dX8_readCommand_41 : decode cX8_readCommand 41 = .ok (.getfield 143, 3) := by decide +kernel
theorem dX8_readCommand_44 : decode cX8_readCommand 44 = .ok (.sipush (-999), 3) := by decide +kernel
theorem dX8_readCommand_47 : decode cX8_readCommand 47 = .ok (.if_icmp .eq 11, 3) := by decide +kernel
theorem dX8_readCommand_50 : decode cX8_readCommand 50 = .ok (.aload_n 0, 1) := by decide +kernel
theorem dX8_readCommand_51 : decode cX8_readCommand 51 = .ok (.getfield 130, 3) := by decide +kernel
theorem dX8_readCommand_54 : decode cX8_readCommand 54 = .ok (.iconst 2, 1) := by decide +kernel
theorem dX8_readCommand_55 : decode cX8_readCommand 55 = .ok (.if_icmp .ge 19, 3) := by decide +kernel
theorem dX8_readCommand_58 : decode cX8_readCommand 58 = .ok (.aload_n 0, 1) := by decide +kernel
theorem dX8_readCommand_59 : decode cX8_readCommand 59 = .ok (.getfield 143, 3) := by decide +kernel
theorem dX8_readCommand_62 : decode cX8_readCommand 62 = .ok (.sipush (-999), 3) := by decide +kernel
theorem dX8_readCommand_65 : decode cX8_readCommand 65 = .ok (.if_icmp .eq 7, 3) := by decide +kernel
theorem dX8_readCommand_68 : decode cX8_readCommand 68 = .ok (.iconst 1, 1) := by decide +kernel
theorem dX8_readCommand_69 : decode cX8_readCommand 69 = .ok (.goto 4, 3) := by decide +kernel
theorem dX8_readCommand_72 : decode cX8_readCommand 72 = .ok (.iconst 0, 1) := by decide +kernel
theorem dX8_readCommand_73 : decode cX8_readCommand 73 = .ok (.ireturn, 1) := by decide +kernel
theorem dX8_readCommand_74 : decode cX8_readCommand 74 = .ok (.aload_n 0, 1) := by decide +kernel
theorem dX8_readCommand_75 : decode cX8_readCommand 75 = .ok (.aload_n 0, 1) := by decide +kernel
theorem dX8_readCommand_76 : decode cX8_readCommand 76 = .ok (.invokevirtual 136, 3) := by decide +kernel
theorem dX8_readCommand_79 : decode cX8_readCommand 79 = .ok (.ifCond .eq 10, 3) := by decide +kernel
theorem dX8_readCommand_82 : decode cX8_readCommand 82 = .ok (.aload_n 0, 1) := by decide +kernel
theorem dX8_readCommand_83 : decode cX8_readCommand 83 = .ok (.invokevirtual 139, 3) := by decide +kernel
theorem dX8_readCommand_86 : decode cX8_readCommand 86 = .ok (.goto 6, 3) := by decide +kernel
theorem dX8_readCommand_89 : decode cX8_readCommand 89 = .ok (.sipush (-999), 3) := by decide +kernel
theorem dX8_readCommand_92 : decode cX8_readCommand 92 = .ok (.putfield 146, 3) := by decide +kernel
theorem dX8_readCommand_95 : decode cX8_readCommand 95 = .ok (.aload_n 0, 1) := by decide +kernel
theorem dX8_readCommand_96 : decode cX8_readCommand 96 = .ok (.getfield 146, 3) := by decide +kernel
theorem dX8_readCommand_99 : decode cX8_readCommand 99 = .ok (.sipush (-999), 3) := by decide +kernel
theorem dX8_readCommand_102 : decode cX8_readCommand 102 = .ok (.if_icmp .eq 7, 3) := by decide +kernel
theorem dX8_readCommand_105 : decode cX8_readCommand 105 = .ok (.iconst 1, 1) := by decide +kernel
theorem dX8_readCommand_106 : decode cX8_readCommand 106 = .ok (.goto 4, 3) := by decide +kernel
theorem dX8_readCommand_109 : decode cX8_readCommand 109 = .ok (.iconst 0, 1) := by decide +kernel
theorem dX8_readCommand_110 : decode cX8_readCommand 110 = .ok (.ireturn, 1) := by decide +kernel
theorem dX8_readPlan_0 : decode cX8_readPlan 0 = .ok (.aload_n 0, 1) := by decide +kernel
theorem dX8_readPlan_1 : decode cX8_readPlan 1 = .ok (.iconst 0, 1) := by decide +kernel
theorem dX8_readPlan_2 : decode cX8_readPlan 2 = .ok (.putfield 107, 3) := by decide +kernel
theorem dX8_readPlan_5 : decode cX8_readPlan 5 = .ok (.iconst 1, 1) := by decide +kernel
theorem dX8_readPlan_6 : decode cX8_readPlan 6 = .ok (.istore_n 1, 1) := by decide +kernel
theorem dX8_readPlan_7 : decode cX8_readPlan 7 = .ok (.aload_n 0, 1) := by decide +kernel
theorem dX8_readPlan_8 : decode cX8_readPlan 8 = .ok (.getfield 100, 3) := by decide +kernel
theorem dX8_readPlan_11 : decode cX8_readPlan 11 = .ok (.ifCond .le 7, 3) := by decide +kernel
theorem dX8_readPlan_14 : decode cX8_readPlan 14 = .ok (.iconst 1, 1) := by decide +kernel
theorem dX8_readPlan_15 : decode cX8_readPlan 15 = .ok (.goto 4, 3) := by decide +kernel
theorem dX8_readPlan_18 : decode cX8_readPlan 18 = .ok (.iconst 0, 1) := by decide +kernel
theorem dX8_readPlan_19 : decode cX8_readPlan 19 = .ok (.istore_n 2, 1) := by decide +kernel
theorem dX8_readPlan_20 : decode cX8_readPlan 20 = .ok (.iload_n 1, 1) := by decide +kernel
theorem dX8_readPlan_21 : decode cX8_readPlan 21 = .ok (.ifCond .eq 57, 3) := by decide +kernel
theorem dX8_readPlan_24 : decode cX8_readPlan 24 = .ok (.iload_n 2, 1) := by decide +kernel
theorem dX8_readPlan_25 : decode cX8_readPlan 25 = .ok (.ifCond .eq 53, 3) := by decide +kernel
theorem dX8_readPlan_28 : decode cX8_readPlan 28 = .ok (.aload_n 0, 1) := by decide +kernel
theorem dX8_readPlan_29 : decode cX8_readPlan 29 = .ok (.invokevirtual 149, 3) := by decide +kernel
theorem dX8_readPlan_32 : decode cX8_readPlan 32 = .ok (.istore_n 1, 1) := by decide +kernel
theorem dX8_readPlan_33 : decode cX8_readPlan 33 = .ok (.iload_n 1, 1) := by decide +kernel
theorem dX8_readPlan_34 : decode cX8_readPlan 34 = .ok (.ifCond .eq 18, 3) := by decide +kernel
theorem dX8_readPlan_37 : decode cX8_readPlan 37 = .ok (.aload_n 0, 1) := by decide +kernel
theorem dX8_readPlan_38 : decode cX8_readPlan 38 = .ok (.getfield 107, 3) := by decide +kernel
theorem dX8_readPlan_41 : decode cX8_readPlan 41 = .ok (.aload_n 0, 1) := by decide +kernel
theorem dX8_readPlan_42 : decode cX8_readPlan 42 = .ok (.getfield 100, 3) := by decide +kernel
theorem dX8_readPlan_45 : decode cX8_readPlan 45 = .ok (.if_icmp .ge 7, 3) := by decide +kernel
theorem dX8_readPlan_48 : decode cX8_readPlan 48 = .ok (.iconst 1, 1) := by decide +kernel
theorem dX8_readPlan_49 : decode cX8_readPlan 49 = .ok (.goto 4, 3) := by decide +kernel
theorem dX8_readPlan_52 : decode cX8_readPlan 52 = .ok (.iconst 0, 1) := by decide +kernel
theorem dX8_readPlan_53 : decode cX8_readPlan 53 = .ok (.istore_n 2, 1) := by decide +kernel
theorem dX8_readPlan_54 : decode cX8_readPlan 54 = .ok (.iload_n 1, 1) := by decide +kernel
theorem dX8_readPlan_55 : decode cX8_readPlan 55 = .ok (.ifCond .eq 18, 3) := by decide +kernel
theorem dX8_readPlan_58 : decode cX8_readPlan 58 = .ok (.iload_n 2, 1) := by decide +kernel
theorem dX8_readPlan_59 : decode cX8_readPlan 59 = .ok (.ifCond .eq 10, 3) := by decide +kernel
theorem dX8_readPlan_62 : decode cX8_readPlan 62 = .ok (.aload_n 0, 1) := by decide +kernel
theorem dX8_readPlan_63 : decode cX8_readPlan 63 = .ok (.invokevirtual 136, 3) := by decide +kernel
theorem dX8_readPlan_66 : decode cX8_readPlan 66 = .ok (.ifCond .eq 7, 3) := by decide +kernel
theorem dX8_readPlan_69 : decode cX8_readPlan 69 = .ok (.iconst 1, 1) := by decide +kernel
theorem dX8_readPlan_70 : decode cX8_readPlan 70 = .ok (.goto 4, 3) := by decide +kernel
theorem dX8_readPlan_73 : decode cX8_readPlan 73 = .ok (.iconst 0, 1) := by decide +kernel
theorem dX8_readPlan_74 : decode cX8_readPlan 74 = .ok (.istore_n 1, 1) := by decide +kernel
theorem dX8_readPlan_75 : decode cX8_readPlan 75 = .ok (.goto (-55), 3) := by decide +kernel
theorem dX8_readPlan_78 : decode cX8_readPlan 78 = .ok (.iload_n 1, 1) := by decide +kernel
theorem dX8_readPlan_79 : decode cX8_readPlan 79 = .ok (.ireturn, 1) := by decide +kernel
theorem dX8_errorPosition_0 : decode cX8_errorPosition 0 = .ok (.iload_n 1, 1) := by decide +kernel
theorem dX8_errorPosition_1 : decode cX8_errorPosition 1 = .ok (.ifCond .eq 10, 3) := by decide +kernel
theorem dX8_errorPosition_4 : decode cX8_errorPosition 4 = .ok (.aload_n 0, 1) := by decide +kernel
theorem dX8_errorPosition_5 : decode cX8_errorPosition 5 = .ok (.invokevirtual 152, 3) := by decide +kernel
theorem dX8_errorPosition_8 : decode cX8_errorPosition 8 = .ok (.goto 7, 3) := by decide +kernel
theorem dX8_errorPosition_11 : decode cX8_errorPosition 11 = .ok (.aload_n 0, 1) := by decide +kernel
theorem dX8_errorPosition_12 : decode cX8_errorPosition 12 = .ok (.invokevirtual 155, 3) := by decide +kernel
theorem dX8_errorPosition_15 : decode cX8_errorPosition 15 = .ok (.istore_n 2, 1) := by decide +kernel
theorem dX8_errorPosition_16 : decode cX8_errorPosition 16 = .ok (.iload_n 2, 1) := by decide +kernel
theorem dX8_errorPosition_17 : decode cX8_errorPosition 17 = .ok (.ifCond .eq 9, 3) := by decide +kernel
theorem dX8_errorPosition_20 : decode cX8_errorPosition 20 = .ok (.sipush (-999), 3) := by decide +kernel
theorem dX8_errorPosition_23 : decode cX8_errorPosition 23 = .ok (.goto 7, 3) := by decide +kernel
theorem dX8_errorPosition_26 : decode cX8_errorPosition 26 = .ok (.aload_n 0, 1) := by decide +kernel
theorem dX8_errorPosition_27 : decode cX8_errorPosition 27 = .ok (.getfield 107, 3) := by decide +kernel
theorem dX8_errorPosition_30 : decode cX8_errorPosition 30 = .ok (.ireturn, 1) := by decide +kernel
theorem dX8_forget_0 : decode cX8_forget 0 = .ok (.aload_n 0, 1) := by decide +kernel
theorem dX8_forget_1 : decode cX8_forget 1 = .ok (.iconst 0, 1) := by decide +kernel
theorem dX8_forget_2 : decode cX8_forget 2 = .ok (.putfield 158, 3) := by decide +kernel
theorem dX8_forget_5 : decode cX8_forget 5 = .ok (.return_, 1) := by decide +kernel
theorem dX8_load_0 : decode cX8_load 0 = .ok (.aload_n 0, 1) := by decide +kernel
theorem dX8_load_1 : decode cX8_load 1 = .ok (.aload_n 0, 1) := by decide +kernel
theorem dX8_load_2 : decode cX8_load 2 = .ok (.invokevirtual 155, 3) := by decide +kernel
theorem dX8_load_5 : decode cX8_load 5 = .ok (.ifCond .eq 7, 3) := by decide +kernel
theorem dX8_load_8 : decode cX8_load 8 = .ok (.iconst 0, 1) := by decide +kernel
theorem dX8_load_9 : decode cX8_load 9 = .ok (.goto 4, 3) := by decide +kernel
theorem dX8_load_12 : decode cX8_load 12 = .ok (.iconst 1, 1) := by decide +kernel
theorem dX8_load_13 : decode cX8_load 13 = .ok (.invokevirtual 103, 3) := by decide +kernel
theorem dX8_load_16 : decode cX8_load 16 = .ok (.ifCond .eq 5, 3) := by decide +kernel
theorem dX8_load_19 : decode cX8_load 19 = .ok (.iconst 0, 1) := by decide +kernel
theorem dX8_load_20 : decode cX8_load 20 = .ok (.ireturn, 1) := by decide +kernel
theorem dX8_load_21 : decode cX8_load 21 = .ok (.aload_n 0, 1) := by decide +kernel
theorem dX8_load_22 : decode cX8_load 22 = .ok (.getfield 13, 3) := by decide +kernel
theorem dX8_load_25 : decode cX8_load 25 = .ok (.iconst 0, 1) := by decide +kernel
theorem dX8_load_26 : decode cX8_load 26 = .ok (.aload_n 0, 1) := by decide +kernel
theorem dX8_load_27 : decode cX8_load 27 = .ok (.getfield 16, 3) := by decide +kernel
theorem dX8_load_30 : decode cX8_load 30 = .ok (.iconst 0, 1) := by decide +kernel
theorem dX8_load_31 : decode cX8_load 31 = .ok (.invokestatic 161, 3) := by decide +kernel
theorem dX8_load_34 : decode cX8_load 34 = .ok (.aload_n 0, 1) := by decide +kernel
theorem dX8_load_35 : decode cX8_load 35 = .ok (.invokevirtual 165, 3) := by decide +kernel
theorem dX8_load_38 : decode cX8_load 38 = .ok (.aload_n 0, 1) := by decide +kernel
theorem dX8_load_39 : decode cX8_load 39 = .ok (.getfield 28, 3) := by decide +kernel
theorem dX8_load_42 : decode cX8_load 42 = .ok (.iconst 0, 1) := by decide +kernel
theorem dX8_load_43 : decode cX8_load 43 = .ok (.iconst 0, 1) := by decide +kernel
theorem dX8_load_44 : decode cX8_load 44 = .ok (.bastore, 1) := by decide +kernel
theorem dX8_load_45 : decode cX8_load 45 = .ok (.aload_n 0, 1) := by decide +kernel
theorem dX8_load_46 : decode cX8_load 46 = .ok (.getfield 28, 3) := by decide +kernel
theorem dX8_load_49 : decode cX8_load 49 = .ok (.iconst 1, 1) := by decide +kernel
theorem dX8_load_50 : decode cX8_load 50 = .ok (.iconst 0, 1) := by decide +kernel
theorem dX8_load_51 : decode cX8_load 51 = .ok (.bastore, 1) := by decide +kernel
theorem dX8_load_52 : decode cX8_load 52 = .ok (.aload_n 0, 1) := by decide +kernel
theorem dX8_load_53 : decode cX8_load 53 = .ok (.getfield 16, 3) := by decide +kernel
theorem dX8_load_56 : decode cX8_load 56 = .ok (.iconst 1, 1) := by decide +kernel
theorem dX8_load_57 : decode cX8_load 57 = .ok (.iaload, 1) := by decide +kernel
theorem dX8_load_58 : decode cX8_load 58 = .ok (.ireturn, 1) := by decide +kernel
theorem dX8_about_0 : decode cX8_about 0 = .ok (.aload_n 0, 1) := by decide +kernel
theorem dX8_about_1 : decode cX8_about 1 = .ok (.iload_n 1, 1) := by decide +kernel
theorem dX8_about_2 : decode cX8_about 2 = .ok (.i2l, 1) := by decide +kernel
theorem dX8_about_3 : decode cX8_about 3 = .ok (.lconst 0, 1) := by decide +kernel
theorem dX8_about_4 : decode cX8_about 4 = .ok (.ldc2_w 168, 3) := by decide +kernel
theorem dX8_about_7 : decode cX8_about 7 = .ok (.invokestatic 65, 3) := by decide +kernel
theorem dX8_about_10 : decode cX8_about 10 = .ok (.ifCond .eq 7, 3) := by decide +kernel
theorem dX8_about_13 : decode cX8_about 13 = .ok (.iconst 0, 1) := by decide +kernel
theorem dX8_about_14 : decode cX8_about 14 = .ok (.goto 4, 3) := by decide +kernel
theorem dX8_about_17 : decode cX8_about 17 = .ok (.iconst 1, 1) := by decide +kernel
theorem dX8_about_18 : decode cX8_about 18 = .ok (.invokevirtual 103, 3) := by decide +kernel
theorem dX8_about_21 : decode cX8_about 21 = .ok (.ifCond .eq 5, 3) := by decide +kernel
theorem dX8_about_24 : decode cX8_about 24 = .ok (.iconst 0, 1) := by decide +kernel
theorem dX8_about_25 : decode cX8_about 25 = .ok (.ireturn, 1) := by decide +kernel
theorem dX8_about_26 : decode cX8_about 26 = .ok (.iconst 0, 1) := by decide +kernel
theorem dX8_about_27 : decode cX8_about 27 = .ok (.istore_n 2, 1) := by decide +kernel
theorem dX8_about_28 : decode cX8_about 28 = .ok (.iload_n 1, 1) := by decide +kernel
theorem dX8_about_29 : decode cX8_about 29 = .ok (.tableswitch 145 0 6 #[43, 50, 57, 89, 96, 103, 115], 43) := by decide +kernel
theorem dX8_about_72 : decode cX8_about 72 = .ok (.aload_n 0, 1) := by decide +kernel
theorem dX8_about_73 : decode cX8_about 73 = .ok (.getfield 16, 3) := by decide +kernel
theorem dX8_about_76 : decode cX8_about 76 = .ok (.iconst 0, 1) := by decide +kernel
theorem dX8_about_77 : decode cX8_about 77 = .ok (.iaload, 1) := by decide +kernel
theorem dX8_about_78 : decode cX8_about 78 = .ok (.ireturn, 1) := by decide +kernel
theorem dX8_about_79 : decode cX8_about 79 = .ok (.aload_n 0, 1) := by decide +kernel
theorem dX8_about_80 : decode cX8_about 80 = .ok (.getfield 16, 3) := by decide +kernel
theorem dX8_about_83 : decode cX8_about 83 = .ok (.iconst 1, 1) := by decide +kernel
theorem dX8_about_84 : decode cX8_about 84 = .ok (.iaload, 1) := by decide +kernel
theorem dX8_about_85 : decode cX8_about 85 = .ok (.ireturn, 1) := by decide +kernel
theorem dX8_about_86 : decode cX8_about 86 = .ok (.iconst 0, 1) := by decide +kernel
theorem dX8_about_87 : decode cX8_about 87 = .ok (.istore_n 3, 1) := by decide +kernel
theorem dX8_about_88 : decode cX8_about 88 = .ok (.iload_n 3, 1) := by decide +kernel
theorem dX8_about_89 : decode cX8_about 89 = .ok (.aload_n 0, 1) := by decide +kernel
theorem dX8_about_90 : decode cX8_about 90 = .ok (.getfield 16, 3) := by decide +kernel
theorem dX8_about_93 : decode cX8_about 93 = .ok (.iconst 1, 1) := by decide +kernel
theorem dX8_about_94 : decode cX8_about 94 = .ok (.iaload, 1) := by decide +kernel
theorem dX8_about_95 : decode cX8_about 95 = .ok (.if_icmp .ge 21, 3) := by decide +kernel
theorem dX8_about_98 : decode cX8_about 98 = .ok (.iload_n 2, 1) := by decide +kernel
theorem dX8_about_99 : decode cX8_about 99 = .ok (.aload_n 0, 1) := by decide +kernel
theorem dX8_about_100 : decode cX8_about 100 = .ok (.getfield 16, 3) := by decide +kernel
theorem dX8_about_103 : decode cX8_about 103 = .ok (.bipush 64, 2) := by decide +kernel
theorem dX8_about_105 : decode cX8_about 105 = .ok (.iload_n 3, 1) := by decide +kernel
theorem dX8_about_106 : decode cX8_about 106 = .ok (.iadd, 1) := by decide +kernel
theorem dX8_about_107 : decode cX8_about 107 = .ok (.iaload, 1) := by decide +kernel
theorem dX8_about_108 : decode cX8_about 108 = .ok (.iadd, 1) := by decide +kernel
theorem dX8_about_109 : decode cX8_about 109 = .ok (.istore_n 2, 1) := by decide +kernel
theorem dX8_about_110 : decode cX8_about 110 = .ok (.iinc 3 1, 3) := by decide +kernel
theorem dX8_about_113 : decode cX8_about 113 = .ok (.goto (-25), 3) := by decide +kernel
theorem dX8_about_116 : decode cX8_about 116 = .ok (.iload_n 2, 1) := by decide +kernel
theorem dX8_about_117 : decode cX8_about 117 = .ok (.ireturn, 1) := by decide +kernel
theorem dX8_about_118 : decode cX8_about 118 = .ok (.aload_n 0, 1) := by decide +kernel
theorem dX8_about_119 : decode cX8_about 119 = .ok (.getfield 16, 3) := by decide +kernel
theorem dX8_about_122 : decode cX8_about 122 = .ok (.iconst 2, 1) := by decide +kernel
theorem dX8_about_123 : decode cX8_about 123 = .ok (.iaload, 1) := by decide +kernel
theorem dX8_about_124 : decode cX8_about 124 = .ok (.ireturn, 1) := by decide +kernel
theorem dX8_about_125 : decode cX8_about 125 = .ok (.aload_n 0, 1) := by decide +kernel
theorem dX8_about_126 : decode cX8_about 126 = .ok (.getfield 16, 3) := by decide +kernel
theorem dX8_about_129 : decode cX8_about 129 = .ok (.iconst 3, 1) := by decide +kernel
theorem dX8_about_130 : decode cX8_about 130 = .ok (.iaload, 1) := by decide +kernel
theorem dX8_about_131 : decode cX8_about 131 = .ok (.ireturn, 1) := by decide +kernel
theorem dX8_about_132 : decode cX8_about 132 = .ok (.aload_n 0, 1) := by decide +kernel
theorem dX8_about_133 : decode cX8_about 133 = .ok (.aload_n 0, 1) := by decide +kernel
theorem dX8_about_134 : decode cX8_about 134 = .ok (.getfield 16, 3) := by decide +kernel
theorem dX8_about_137 : decode cX8_about 137 = .ok (.sipush (-999), 3) := by decide +kernel
theorem dX8_about_140 : decode cX8_about 140 = .ok (.invokevirtual 88, 3) := by decide +kernel
theorem dX8_about_143 : decode cX8_about 143 = .ok (.ireturn, 1) := by decide +kernel
theorem dX8_about_144 : decode cX8_about 144 = .ok (.aload_n 0, 1) := by decide +kernel
theorem dX8_about_145 : decode cX8_about 145 = .ok (.aload_n 0, 1) := by decide +kernel
theorem dX8_about_146 : decode cX8_about 146 = .ok (.getfield 16, 3) := by decide +kernel
theorem dX8_about_149 : decode cX8_about 149 = .ok (.sipush (-999), 3) := by decide +kernel
theorem dX8_about_152 : decode cX8_about 152 = .ok (.invokevirtual 170, 3) := by decide +kernel
theorem dX8_about_155 : decode cX8_about 155 = .ok (.sipush (-999), 3) := by decide +kernel
theorem dX8_about_158 : decode cX8_about 158 = .ok (.if_icmp .ne 9, 3) := by decide +kernel
theorem dX8_about_161 : decode cX8_about 161 = .ok (.sipush (-999), 3) := by decide +kernel
theorem dX8_about_164 : decode cX8_about 164 = .ok (.goto 9, 3) := by decide +kernel
theorem dX8_about_167 : decode cX8_about 167 = .ok (.aload_n 0, 1) := by decide +kernel
theorem dX8_about_168 : decode cX8_about 168 = .ok (.getfield 92, 3) := by decide +kernel
theorem dX8_about_171 : decode cX8_about 171 = .ok (.iconst 1, 1) := by decide +kernel
theorem dX8_about_172 : decode cX8_about 172 = .ok (.isub, 1) := by decide +kernel
theorem dX8_about_173 : decode cX8_about 173 = .ok (.ireturn, 1) := by decide +kernel
theorem dX8_about_174 : decode cX8_about 174 = .ok (.aload_n 0, 1) := by decide +kernel
theorem dX8_about_175 : decode cX8_about 175 = .ok (.aload_n 0, 1) := by decide +kernel
theorem dX8_about_176 : decode cX8_about 176 = .ok (.getfield 16, 3) := by decide +kernel
theorem dX8_about_179 : decode cX8_about 179 = .ok (.sipush (-999), 3) := by decide +kernel
theorem dX8_about_182 : decode cX8_about 182 = .ok (.invokevirtual 88, 3) := by decide +kernel
theorem dX8_about_185 : decode cX8_about 185 = .ok (.sipush (-999), 3) := by decide +kernel
theorem dX8_about_188 : decode cX8_about 188 = .ok (.if_icmp .eq 7, 3) := by decide +kernel
theorem dX8_about_191 : decode cX8_about 191 = .ok (.iconst 1, 1) := by decide +kernel
theorem dX8_about_192 : decode cX8_about 192 = .ok (.goto 4, 3) := by decide +kernel
theorem dX8_about_195 : decode cX8_about 195 = .ok (.iconst 0, 1) := by decide +kernel
theorem dX8_about_196 : decode cX8_about 196 = .ok (.istore_n 3, 1) := by decide +kernel
theorem dX8_about_197 : decode cX8_about 197 = .ok (.iconst 0, 1) := by decide +kernel
theorem dX8_about_198 : decode cX8_about 198 = .ok (.istore 4, 2) := by decide +kernel
theorem dX8_about_200 : decode cX8_about 200 = .ok (.iload 4, 2) := by decide +kernel
theorem dX8_about_202 : decode cX8_about 202 = .ok (.aload_n 0, 1) := by decide +kernel
theorem dX8_about_203 : decode cX8_about 203 = .ok (.getfield 16, 3) := by decide +kernel
theorem dX8_about_206 : decode cX8_about 206 = .ok (.iconst 1, 1) := by decide +kernel
theorem dX8_about_207 : decode cX8_about 207 = .ok (.iaload, 1) := by decide +kernel
theorem dX8_about_208 : decode cX8_about 208 = .ok (.if_icmp .ge 50, 3) := by decide +kernel
theorem dX8_about_211 : decode cX8_about 211 = .ok (.iload_n 3, 1) := by decide +kernel
theorem dX8_about_212 : decode cX8_about 212 = .ok (.ifCond .eq 46, 3) := by decide +kernel
theorem dX8_about_215 : decode cX8_about 215 = .ok (.iload_n 2, 1) := by decide +kernel
theorem dX8_about_216 : decode cX8_about 216 = .ok (.aload_n 0, 1) := by decide +kernel
theorem dX8_about_217 : decode cX8_about 217 = .ok (.getfield 16, 3) := by decide +kernel
theorem dX8_about_220 : decode cX8_about 220 = .ok (.bipush 64, 2) := by decide +kernel
theorem dX8_about_222 : decode cX8_about 222 = .ok (.iload 4, 2) := by decide +kernel
theorem dX8_about_224 : decode cX8_about 224 = .ok (.iadd, 1) := by decide +kernel
theorem dX8_about_225 : decode cX8_about 225 = .ok (.iaload, 1) := by decide +kernel
theorem dX8_about_226 : decode cX8_about 226 = .ok (.ifCond .ne 23, 3) := by decide +kernel
theorem dX8_about_229 : decode cX8_about 229 = .ok (.aload_n 0, 1) := by decide +kernel
theorem dX8_about_230 : decode cX8_about 230 = .ok (.aload_n 0, 1) := by decide +kernel
theorem dX8_about_231 : decode cX8_about 231 = .ok (.getfield 16, 3) := by decide +kernel
theorem dX8_about_234 : decode cX8_about 234 = .ok (.iload 4, 2) := by decide +kernel
theorem dX8_about_236 : decode cX8_about 236 = .ok (.invokevirtual 88, 3) := by decide +kernel
theorem dX8_about_239 : decode cX8_about 239 = .ok (.sipush (-999), 3) := by decide +kernel
theorem dX8_about_242 : decode cX8_about 242 = .ok (.if_icmp .ne 7, 3) := by decide +kernel
theorem dX8_about_245 : decode cX8_about 245 = .ok (.iconst 1, 1) := by decide +kernel
theorem dX8_about_246 : decode cX8_about 246 = .ok (.goto 4, 3) := by decide +kernel
theorem dX8_about_249 : decode cX8_about 249 = .ok (.iconst 0, 1) := by decide +kernel
theorem dX8_about_250 : decode cX8_about 250 = .ok (.iadd, 1) := by decide +kernel
theorem dX8_about_251 : decode cX8_about 251 = .ok (.istore_n 2, 1) := by decide +kernel
theorem dX8_about_252 : decode cX8_about 252 = .ok (.iinc 4 1, 3) := by decide +kernel
theorem dX8_about_255 : decode cX8_about 255 = .ok (.goto (-55), 3) := by decide +kernel
theorem dX8_about_258 : decode cX8_about 258 = .ok (.iload_n 2, 1) := by decide +kernel
theorem dX8_about_259 : decode cX8_about 259 = .ok (.ireturn, 1) := by decide +kernel
theorem dX8_street_0 : decode cX8_street 0 = .ok (.aload_n 0, 1) := by decide +kernel
theorem dX8_street_1 : decode cX8_street 1 = .ok (.aload_n 0, 1) := by decide +kernel
theorem dX8_street_2 : decode cX8_street 2 = .ok (.getfield 16, 3) := by decide +kernel
theorem dX8_street_5 : decode cX8_street 5 = .ok (.iload_n 1, 1) := by decide +kernel
theorem dX8_street_6 : decode cX8_street 6 = .ok (.invokestatic 173, 3) := by decide +kernel
theorem dX8_street_9 : decode cX8_street 9 = .ok (.ifCond .ne 7, 3) := by decide +kernel
theorem dX8_street_12 : decode cX8_street 12 = .ok (.iconst 1, 1) := by decide +kernel
theorem dX8_street_13 : decode cX8_street 13 = .ok (.goto 20, 3) := by decide +kernel
theorem dX8_street_16 : decode cX8_street 16 = .ok (.iload_n 2, 1) := by decide +kernel
theorem dX8_street_17 : decode cX8_street 17 = .ok (.i2l, 1) := by decide +kernel
theorem dX8_street_18 : decode cX8_street 18 = .ok (.lconst 0, 1) := by decide +kernel
theorem dX8_street_19 : decode cX8_street 19 = .ok (.ldc2_w 177, 3) := by decide +kernel
theorem dX8_street_22 : decode cX8_street 22 = .ok (.invokestatic 65, 3) := by decide +kernel
theorem dX8_street_25 : decode cX8_street 25 = .ok (.ifCond .eq 7, 3) := by decide +kernel
theorem dX8_street_28 : decode cX8_street 28 = .ok (.iconst 0, 1) := by decide +kernel
theorem dX8_street_29 : decode cX8_street 29 = .ok (.goto 4, 3) := by decide +kernel
theorem dX8_street_32 : decode cX8_street 32 = .ok (.iconst 2, 1) := by decide +kernel
theorem dX8_street_33 : decode cX8_street 33 = .ok (.invokevirtual 103, 3) := by decide +kernel
theorem dX8_street_36 : decode cX8_street 36 = .ok (.ifCond .eq 5, 3) := by decide +kernel
theorem dX8_street_39 : decode cX8_street 39 = .ok (.iconst 0, 1) := by decide +kernel
theorem dX8_street_40 : decode cX8_street 40 = .ok (.ireturn, 1) := by decide +kernel
theorem dX8_street_41 : decode cX8_street 41 = .ok (.aload_n 0, 1) := by decide +kernel
theorem dX8_street_42 : decode cX8_street 42 = .ok (.getfield 16, 3) := by decide +kernel
theorem dX8_street_45 : decode cX8_street 45 = .ok (.iconst 4, 1) := by decide +kernel
theorem dX8_street_46 : decode cX8_street 46 = .ok (.iload_n 1, 1) := by decide +kernel
theorem dX8_street_47 : decode cX8_street 47 = .ok (.iadd, 1) := by decide +kernel
theorem dX8_street_48 : decode cX8_street 48 = .ok (.iaload, 1) := by decide +kernel
theorem dX8_street_49 : decode cX8_street 49 = .ok (.istore_n 3, 1) := by decide +kernel
theorem dX8_street_50 : decode cX8_street 50 = .ok (.aload_n 0, 1) := by decide +kernel
theorem dX8_street_51 : decode cX8_street 51 = .ok (.getfield 16, 3) := by decide +kernel
theorem dX8_street_54 : decode cX8_street 54 = .ok (.bipush 24, 2) := by decide +kernel
theorem dX8_street_56 : decode cX8_street 56 = .ok (.iload_n 1, 1) := by decide +kernel
theorem dX8_street_57 : decode cX8_street 57 = .ok (.iadd, 1) := by decide +kernel
theorem dX8_street_58 : decode cX8_street 58 = .ok (.iaload, 1) := by decide +kernel
theorem dX8_street_59 : decode cX8_street 59 = .ok (.istore 4, 2) := by decide +kernel
theorem dX8_street_61 : decode cX8_street 61 = .ok (.iload_n 2, 1) := by decide +kernel
theorem dX8_street_62 : decode cX8_street 62 = .ok (.tableswitch 76 0 3 #[30, 43, 56, 66], 30) := by decide +kernel
theorem dX8_street_92 : decode cX8_street 92 = .ok (.iload_n 3, 1) := by decide +kernel
theorem dX8_street_93 : decode cX8_street 93 = .ok (.iload 4, 2) := by decide +kernel
theorem dX8_street_95 : decode cX8_street 95 = .ok (.if_icmp .ge 7, 3) := by decide +kernel
theorem dX8_street_98 : decode cX8_street 98 = .ok (.iload_n 3, 1) := by decide +kernel
theorem dX8_street_99 : decode cX8_street 99 = .ok (.goto 5, 3) := by decide +kernel
theorem dX8_street_102 : decode cX8_street 102 = .ok (.iload 4, 2) := by decide +kernel
theorem dX8_street_104 : decode cX8_street 104 = .ok (.ireturn, 1) := by decide +kernel
theorem dX8_street_105 : decode cX8_street 105 = .ok (.iload_n 3, 1) := by decide +kernel
theorem dX8_street_106 : decode cX8_street 106 = .ok (.iload 4, 2) := by decide +kernel
theorem dX8_street_108 : decode cX8_street 108 = .ok (.if_icmp .ge 8, 3) := by decide +kernel
theorem dX8_street_111 : decode cX8_street 111 = .ok (.iload 4, 2) := by decide +kernel
theorem dX8_street_113 : decode cX8_street 113 = .ok (.goto 4, 3) := by decide +kernel
theorem dX8_street_116 : decode cX8_street 116 = .ok (.iload_n 3, 1) := by decide +kernel
theorem dX8_street_117 : decode cX8_street 117 = .ok (.ireturn, 1) := by decide +kernel
theorem dX8_street_118 : decode cX8_street 118 = .ok (.aload_n 0, 1) := by decide +kernel
theorem dX8_street_119 : decode cX8_street 119 = .ok (.getfield 16, 3) := by decide +kernel
theorem dX8_street_122 : decode cX8_street 122 = .ok (.bipush 44, 2) := by decide +kernel
theorem dX8_street_124 : decode cX8_street 124 = .ok (.iload_n 1, 1) := by decide +kernel
theorem dX8_street_125 : decode cX8_street 125 = .ok (.iadd, 1) := by decide +kernel
theorem dX8_street_126 : decode cX8_street 126 = .ok (.iaload, 1) := by decide +kernel
theorem dX8_street_127 : decode cX8_street 127 = .ok (.ireturn, 1) := by decide +kernel
theorem dX8_street_128 : decode cX8_street 128 = .ok (.aload_n 0, 1) := by decide +kernel
theorem dX8_street_129 : decode cX8_street 129 = .ok (.getfield 16, 3) := by decide +kernel
theorem dX8_street_132 : decode cX8_street 132 = .ok (.bipush 64, 2) := by decide +kernel
theorem dX8_street_134 : decode cX8_street 134 = .ok (.iload_n 1, 1) := by decide +kernel
theorem dX8_street_135 : decode cX8_street 135 = .ok (.iadd, 1) := by decide +kernel
theorem dX8_street_136 : decode cX8_street 136 = .ok (.iaload, 1) := by decide +kernel
theorem dX8_street_137 : decode cX8_street 137 = .ok (.ireturn, 1) := by decide +kernel
theorem dX8_street_138 : decode cX8_street 138 = .ok (.aload_n 0, 1) := by decide +kernel
theorem dX8_street_139 : decode cX8_street 139 = .ok (.aload_n 0, 1) := by decide +kernel
theorem dX8_street_140 : decode cX8_street 140 = .ok (.getfield 16, 3) := by decide +kernel
theorem dX8_street_143 : decode cX8_street 143 = .ok (.sipush (-999), 3) := by decide +kernel
theorem dX8_street_146 : decode cX8_street 146 = .ok (.invokevirtual 170, 3) := by decide +kernel
theorem dX8_street_149 : decode cX8_street 149 = .ok (.pop, 1) := by decide +kernel
theorem dX8_street_150 : decode cX8_street 150 = .ok (.aload_n 0, 1) := by decide +kernel
theorem dX8_street_151 : decode cX8_street 151 = .ok (.getfield 16, 3) := by decide +kernel
theorem dX8_street_154 : decode cX8_street 154 = .ok (.bipush 64, 2) := by decide +kernel
theorem dX8_street_156 : decode cX8_street 156 = .ok (.iload_n 1, 1) := by decide +kernel
theorem dX8_street_157 : decode cX8_street 157 = .ok (.iadd, 1) := by decide +kernel
theorem dX8_street_158 : decode cX8_street 158 = .ok (.iaload, 1) := by decide +kernel
theorem dX8_street_159 : decode cX8_street 159 = .ok (.ifCond .ne 19, 3) := by decide +kernel
theorem dX8_street_162 : decode cX8_street 162 = .ok (.aload_n 0, 1) := by decide +kernel
theorem dX8_street_163 : decode cX8_street 163 = .ok (.aload_n 0, 1) := by decide +kernel
theorem dX8_street_164 : decode cX8_street 164 = .ok (.getfield 16, 3) := by decide +kernel
theorem dX8_street_167 : decode cX8_street 167 = .ok (.iload_n 1, 1) := by decide +kernel
theorem dX8_street_168 : decode cX8_street 168 = .ok (.invokevirtual 179, 3) := by decide +kernel
theorem dX8_street_171 : decode cX8_street 171 = .ok (.ifCond .eq 7, 3) := by decide +kernel
theorem dX8_street_174 : decode cX8_street 174 = .ok (.iconst 1, 1) := by decide +kernel
theorem dX8_street_175 : decode cX8_street 175 = .ok (.goto 4, 3) := by decide +kernel
theorem dX8_street_178 : decode cX8_street 178 = .ok (.iconst 0, 1) := by decide +kernel
theorem dX8_street_179 : decode cX8_street 179 = .ok (.ireturn, 1) := by decide +kernel
theorem dX8_crossing_0 : decode cX8_crossing 0 = .ok (.aload_n 0, 1) := by decide +kernel
theorem dX8_crossing_1 : decode cX8_crossing 1 = .ok (.aload_n 0, 1) := by decide +kernel
theorem dX8_crossing_2 : decode cX8_crossing 2 = .ok (.getfield 16, 3) := by decide +kernel
theorem dX8_crossing_5 : decode cX8_crossing 5 = .ok (.iload_n 1, 1) := by decide +kernel
theorem dX8_crossing_6 : decode cX8_crossing 6 = .ok (.invokestatic 182, 3) := by decide +kernel
theorem dX8_crossing_9 : decode cX8_crossing 9 = .ok (.ifCond .ne 7, 3) := by decide +kernel
theorem dX8_crossing_12 : decode cX8_crossing 12 = .ok (.iconst 1, 1) := by decide +kernel
theorem dX8_crossing_13 : decode cX8_crossing 13 = .ok (.goto 20, 3) := by decide +kernel
theorem dX8_crossing_16 : decode cX8_crossing 16 = .ok (.iload_n 2, 1) := by decide +kernel
theorem dX8_crossing_17 : decode cX8_crossing 17 = .ok (.i2l, 1) := by decide +kernel
theorem dX8_crossing_18 : decode cX8_crossing 18 = .ok (.lconst 0, 1) := by decide +kernel
theorem dX8_crossing_19 : decode cX8_crossing 19 = .ok (.ldc2_w 185, 3) := by decide +kernel
theorem dX8_crossing_22 : decode cX8_crossing 22 = .ok (.invokestatic 65, 3) := by decide +kernel
theorem dX8_crossing_25 : decode cX8_crossing 25 = .ok (.ifCond .eq 7, 3) := by decide +kernel
theorem dX8_crossing_28 : decode cX8_crossing 28 = .ok (.iconst 0, 1) := by decide +kernel
theorem dX8_crossing_29 : decode cX8_crossing 29 = .ok (.goto 4, 3) := by decide +kernel
theorem dX8_crossing_32 : decode cX8_crossing 32 = .ok (.iconst 2, 1) := by decide +kernel
theorem dX8_crossing_33 : decode cX8_crossing 33 = .ok (.invokevirtual 103, 3) := by decide +kernel
theorem dX8_crossing_36 : decode cX8_crossing 36 = .ok (.ifCond .eq 5, 3) := by decide +kernel
theorem dX8_crossing_39 : decode cX8_crossing 39 = .ok (.iconst 0, 1) := by decide +kernel
theorem dX8_crossing_40 : decode cX8_crossing 40 = .ok (.ireturn, 1) := by decide +kernel
theorem dX8_crossing_41 : decode cX8_crossing 41 = .ok (.iload_n 2, 1) := by decide +kernel
theorem dX8_crossing_42 : decode cX8_crossing 42 = .ok (.ifCond .ne 13, 3) := by decide +kernel
theorem dX8_crossing_45 : decode cX8_crossing 45 = .ok (.aload_n 0, 1) := by decide +kernel
theorem dX8_crossing_46 : decode cX8_crossing 46 = .ok (.getfield 16, 3) := by decide +kernel
theorem dX8_crossing_49 : decode cX8_crossing 49 = .ok (.iload_n 1, 1) := by decide +kernel
theorem dX8_crossing_50 : decode cX8_crossing 50 = .ok (.iconst 1, 1) := by decide +kernel
theorem dX8_crossing_51 : decode cX8_crossing 51 = .ok (.invokestatic 114, 3) := by decide +kernel
theorem dX8_crossing_54 : decode cX8_crossing 54 = .ok (.ireturn, 1) := by decide +kernel
theorem dX8_crossing_55 : decode cX8_crossing 55 = .ok (.iload_n 2, 1) := by decide +kernel
theorem dX8_crossing_56 : decode cX8_crossing 56 = .ok (.iconst 3, 1) := by decide +kernel
theorem dX8_crossing_57 : decode cX8_crossing 57 = .ok (.if_icmp .ne 21, 3) := by decide +kernel
theorem dX8_crossing_60 : decode cX8_crossing 60 = .ok (.aload_n 0, 1) := by decide +kernel
theorem dX8_crossing_61 : decode cX8_crossing 61 = .ok (.aload_n 0, 1) := by decide +kernel
theorem dX8_crossing_62 : decode cX8_crossing 62 = .ok (.getfield 16, 3) := by decide +kernel
theorem dX8_crossing_65 : decode cX8_crossing 65 = .ok (.sipush (-999), 3) := by decide +kernel
theorem dX8_crossing_68 : decode cX8_crossing 68 = .ok (.invokevirtual 170, 3) := by decide +kernel
theorem dX8_crossing_71 : decode cX8_crossing 71 = .ok (.pop, 1) := by decide +kernel
theorem dX8_crossing_72 : decode cX8_crossing 72 = .ok (.aload_n 0, 1) := by decide +kernel
theorem dX8_crossing_73 : decode cX8_crossing 73 = .ok (.iload_n 1, 1) := by decide +kernel
theorem dX8_crossing_74 : decode cX8_crossing 74 = .ok (.invokevirtual 95, 3) := by decide +kernel
theorem dX8_crossing_77 : decode cX8_crossing 77 = .ok (.ireturn, 1) := by decide +kernel
theorem dX8_crossing_78 : decode cX8_crossing 78 = .ok (.aload_n 0, 1) := by decide +kernel
theorem dX8_crossing_79 : decode cX8_crossing 79 = .ok (.aload_n 0, 1) := by decide +kernel
theorem dX8_crossing_80 : decode cX8_crossing 80 = .ok (.getfield 16, 3) := by decide +kernel
theorem dX8_crossing_83 : decode cX8_crossing 83 = .ok (.sipush (-999), 3) := by decide +kernel
theorem dX8_crossing_86 : decode cX8_crossing 86 = .ok (.invokevirtual 81, 3) := by decide +kernel
theorem dX8_crossing_89 : decode cX8_crossing 89 = .ok (.aload_n 0, 1) := by decide +kernel
theorem dX8_crossing_90 : decode cX8_crossing 90 = .ok (.aload_n 0, 1) := by decide +kernel
theorem dX8_crossing_91 : decode cX8_crossing 91 = .ok (.getfield 16, 3) := by decide +kernel
theorem dX8_crossing_94 : decode cX8_crossing 94 = .ok (.iload_n 2, 1) := by decide +kernel
theorem dX8_crossing_95 : decode cX8_crossing 95 = .ok (.iconst 1, 1) := by decide +kernel
theorem dX8_crossing_96 : decode cX8_crossing 96 = .ok (.if_icmp .ne 12, 3) := by decide +kernel
theorem dX8_crossing_99 : decode cX8_crossing 99 = .ok (.aload_n 0, 1) := by decide +kernel
theorem dX8_crossing_100 : decode cX8_crossing 100 = .ok (.getfield 16, 3) := by decide +kernel
theorem dX8_crossing_103 : decode cX8_crossing 103 = .ok (.iconst 2, 1) := by decide +kernel
theorem dX8_crossing_104 : decode cX8_crossing 104 = .ok (.iaload, 1) := by decide +kernel
theorem dX8_crossing_105 : decode cX8_crossing 105 = .ok (.goto 9, 3) := by decide +kernel
theorem dX8_crossing_108 : decode cX8_crossing 108 = .ok (.aload_n 0, 1) := by decide +kernel
