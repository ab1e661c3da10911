theorem dX10_init_69 : decode cX10_init 69 = .ok (.bipush 30, 2) := by decide +kernel
theorem dX10_init_71 : decode cX10_init 71 = .ok (.newarray .int, 2) := by decide +kernel
theorem dX10_init_73 : decode cX10_init 73 = .ok (.putfield 34, 3) := by decide +kernel
theorem dX10_init_76 : decode cX10_init 76 = .ok (.aload_n 0, 1) := by decide +kernel
theorem dX10_init_77 : decode cX10_init 77 = .ok (.bipush 8, 2) := by decide +kernel
theorem dX10_init_79 : decode cX10_init 79 = .ok (.newarray .int, 2) := by decide +kernel
theorem dX10_init_81 : decode cX10_init 81 = .ok (.putfield 37, 3) := by decide +kernel
theorem dX10_init_84 : decode cX10_init 84 = .ok (.aload_n 0, 1) := by decide +kernel
theorem dX10_init_85 : decode cX10_init 85 = .ok (.bipush 8, 2) := by decide +kernel
theorem dX10_init_87 : decode cX10_init 87 = .ok (.newarray .int, 2) := by decide +kernel
theorem dX10_init_89 : decode cX10_init 89 = .ok (.putfield 40, 3) := by decide +kernel
theorem dX10_init_92 : decode cX10_init 92 = .ok (.aload_n 0, 1) := by decide +kernel
theorem dX10_init_93 : decode cX10_init 93 = .ok (.bipush 8, 2) := by decide +kernel
theorem dX10_init_95 : decode cX10_init 95 = .ok (.newarray .int, 2) := by decide +kernel
theorem dX10_init_97 : decode cX10_init 97 = .ok (.putfield 43, 3) := by decide +kernel
theorem dX10_init_100 : decode cX10_init 100 = .ok (.aload_n 0, 1) := by decide +kernel
theorem dX10_init_101 : decode cX10_init 101 = .ok (.bipush 8, 2) := by decide +kernel
theorem dX10_init_103 : decode cX10_init 103 = .ok (.newarray .int, 2) := by decide +kernel
theorem dX10_init_105 : decode cX10_init 105 = .ok (.putfield 46, 3) := by decide +kernel
theorem dX10_init_108 : decode cX10_init 108 = .ok (.aload_n 0, 1) := by decide +kernel
theorem dX10_init_109 : decode cX10_init 109 = .ok (.bipush 120, 2) := by decide +kernel
theorem dX10_init_111 : decode cX10_init 111 = .ok (.newarray .int, 2) := by decide +kernel
theorem dX10_init_113 : decode cX10_init 113 = .ok (.putfield 49, 3) := by decide +kernel
theorem dX10_init_116 : decode cX10_init 116 = .ok (.aload_n 0, 1) := by decide +kernel
theorem dX10_init_117 : decode cX10_init 117 = .ok (.bipush 120, 2) := by decide +kernel
theorem dX10_init_119 : decode cX10_init 119 = .ok (.newarray .int, 2) := by decide +kernel
theorem dX10_init_121 : decode cX10_init 121 = .ok (.putfield 52, 3) := by decide +kernel
theorem dX10_init_124 : decode cX10_init 124 = .ok (.aload_n 0, 1) := by decide +kernel
theorem dX10_init_125 : decode cX10_init 125 = .ok (.bipush 8, 2) := by decide +kernel
theorem dX10_init_127 : decode cX10_init 127 = .ok (.newarray .int, 2) := by decide +kernel
theorem dX10_init_129 : decode cX10_init 129 = .ok (.putfield 55, 3) := by decide +kernel
theorem dX10_init_132 : decode cX10_init 132 = .ok (.aload_n 0, 1) := by decide +kernel
theorem dX10_init_133 : decode cX10_init 133 = .ok (.bipush 8, 2) := by decide +kernel
theorem dX10_init_135 : decode cX10_init 135 = .ok (.newarray .int, 2) := by decide +kernel
theorem dX10_init_137 : decode cX10_init 137 = .ok (.putfield 58, 3) := by decide +kernel
theorem dX10_init_140 : decode cX10_init 140 = .ok (.aload_n 0, 1) := by decide +kernel
theorem dX10_init_141 : decode cX10_init 141 = .ok (.bipush 8, 2) := by decide +kernel
theorem dX10_init_143 : decode cX10_init 143 = .ok (.newarray .int, 2) := by decide +kernel
theorem dX10_init_145 : decode cX10_init 145 = .ok (.putfield 61, 3) := by decide +kernel
theorem dX10_init_148 : decode cX10_init 148 = .ok (.aload_n 0, 1) := by decide +kernel
theorem dX10_init_149 : decode cX10_init 149 = .ok (.bipush 6, 2) := by decide +kernel
theorem dX10_init_151 : decode cX10_init 151 = .ok (.newarray .int, 2) := by decide +kernel
theorem dX10_init_153 : decode cX10_init 153 = .ok (.putfield 64, 3) := by decide +kernel
theorem dX10_init_156 : decode cX10_init 156 = .ok (.aload_n 0, 1) := by decide +kernel
theorem dX10_init_157 : decode cX10_init 157 = .ok (.bipush 6, 2) := by decide +kernel
theorem dX10_init_159 : decode cX10_init 159 = .ok (.newarray .int, 2) := by decide +kernel
theorem dX10_init_161 : decode cX10_init 161 = .ok (.putfield 67, 3) := by decide +kernel
theorem dX10_init_164 : decode cX10_init 164 = .ok (.aload_n 0, 1) := by decide +kernel
theorem dX10_init_165 : decode cX10_init 165 = .ok (.bipush 6, 2) := by decide +kernel
theorem dX10_init_167 : decode cX10_init 167 = .ok (.newarray .int, 2) := by decide +kernel
theorem dX10_init_169 : decode cX10_init 169 = .ok (.putfield 70, 3) := by decide +kernel
theorem dX10_init_172 : decode cX10_init 172 = .ok (.aload_n 0, 1) := by decide +kernel
theorem dX10_init_173 : decode cX10_init 173 = .ok (.bipush 8, 2) := by decide +kernel
theorem dX10_init_175 : decode cX10_init 175 = .ok (.newarray .int, 2) := by decide +kernel
theorem dX10_init_177 : decode cX10_init 177 = .ok (.putfield 73, 3) := by decide +kernel
theorem dX10_init_180 : decode cX10_init 180 = .ok (.aload_n 0, 1) := by decide +kernel
theorem dX10_init_181 : decode cX10_init 181 = .ok (.bipush 8, 2) := by decide +kernel
theorem dX10_init_183 : decode cX10_init 183 = .ok (.newarray .int, 2) := by decide +kernel
theorem dX10_init_185 : decode cX10_init 185 = .ok (.putfield 76, 3) := by decide +kernel
theorem dX10_init_188 : decode cX10_init 188 = .ok (.aload_n 0, 1) := by decide +kernel
theorem dX10_init_189 : decode cX10_init 189 = .ok (.bipush 8, 2) := by decide +kernel
theorem dX10_init_191 : decode cX10_init 191 = .ok (.newarray .int, 2) := by decide +kernel
theorem dX10_init_193 : decode cX10_init 193 = .ok (.putfield 79, 3) := by decide +kernel
theorem dX10_init_196 : decode cX10_init 196 = .ok (.aload_n 0, 1) := by decide +kernel
theorem dX10_init_197 : decode cX10_init 197 = .ok (.bipush 6, 2) := by decide +kernel
theorem dX10_init_199 : decode cX10_init 199 = .ok (.newarray .int, 2) := by decide +kernel
theorem dX10_init_201 : decode cX10_init 201 = .ok (.putfield 82, 3) := by decide +kernel
theorem dX10_init_204 : decode cX10_init 204 = .ok (.aload_n 0, 1) := by decide +kernel
theorem dX10_init_205 : decode cX10_init 205 = .ok (.bipush 50, 2) := by decide +kernel
theorem dX10_init_207 : decode cX10_init 207 = .ok (.newarray .int, 2) := by decide +kernel
theorem dX10_init_209 : decode cX10_init 209 = .ok (.putfield 85, 3) := by decide +kernel
theorem dX10_init_212 : decode cX10_init 212 = .ok (.aload_n 0, 1) := by decide +kernel
theorem dX10_init_213 : decode cX10_init 213 = .ok (.bipush 24, 2) := by decide +kernel
theorem dX10_init_215 : decode cX10_init 215 = .ok (.newarray .int, 2) := by decide +kernel
theorem dX10_init_217 : decode cX10_init 217 = .ok (.putfield 88, 3) := by decide +kernel
theorem dX10_init_220 : decode cX10_init 220 = .ok (.aload_n 0, 1) := by decide +kernel
theorem dX10_init_221 : decode cX10_init 221 = .ok (.bipush 6, 2) := by decide +kernel
theorem dX10_init_223 : decode cX10_init 223 = .ok (.newarray .int, 2) := by decide +kernel
theorem dX10_init_225 : decode cX10_init 225 = .ok (.putfield 91, 3) := by decide +kernel
theorem dX10_init_228 : decode cX10_init 228 = .ok (.aload_n 0, 1) := by decide +kernel
theorem dX10_init_229 : decode cX10_init 229 = .ok (.bipush 6, 2) := by decide +kernel
theorem dX10_init_231 : decode cX10_init 231 = .ok (.newarray .int, 2) := by decide +kernel
theorem dX10_init_233 : decode cX10_init 233 = .ok (.putfield 94, 3) := by decide +kernel
theorem dX10_init_236 : decode cX10_init 236 = .ok (.aload_n 0, 1) := by decide +kernel
theorem dX10_init_237 : decode cX10_init 237 = .ok (.sipush 360, 3) := by decide +kernel
theorem dX10_init_240 : decode cX10_init 240 = .ok (.newarray .long, 2) := by decide +kernel
theorem dX10_init_242 : decode cX10_init 242 = .ok (.putfield 97, 3) := by decide +kernel
theorem dX10_init_245 : decode cX10_init 245 = .ok (.aload_n 0, 1) := by decide +kernel
theorem dX10_init_246 : decode cX10_init 246 = .ok (.bipush 60, 2) := by decide +kernel
theorem dX10_init_248 : decode cX10_init 248 = .ok (.newarray .long, 2) := by decide +kernel
theorem dX10_init_250 : decode cX10_init 250 = .ok (.putfield 101, 3) := by decide +kernel
theorem dX10_init_253 : decode cX10_init 253 = .ok (.iconst 0, 1) := by decide +kernel
theorem dX10_init_254 : decode cX10_init 254 = .ok (.istore_n 1, 1) := by decide +kernel
theorem dX10_init_255 : decode cX10_init 255 = .ok (.iload_n 1, 1) := by decide +kernel
theorem dX10_init_256 : decode cX10_init 256 = .ok (.bipush 6, 2) := by decide +kernel
theorem dX10_init_258 : decode cX10_init 258 = .ok (.if_icmp .ge 16, 3) := by decide +kernel
theorem dX10_init_261 : decode cX10_init 261 = .ok (.aload_n 0, 1) := by decide +kernel
theorem dX10_init_262 : decode cX10_init 262 = .ok (.getfield 91, 3) := by decide +kernel
theorem dX10_init_265 : decode cX10_init 265 = .ok (.iload_n 1, 1) := by decide +kernel
theorem dX10_init_266 : decode cX10_init 266 = .ok (.iconst (-1), 1) := by decide +kernel
theorem dX10_init_267 : decode cX10_init 267 = .ok (.iastore, 1) := by decide +kernel
theorem dX10_init_268 : decode cX10_init 268 = .ok (.iinc 1 1, 3) := by decide +kernel
theorem dX10_init_271 : decode cX10_init 271 = .ok (.goto (-16), 3) := by decide +kernel
theorem dX10_init_274 : decode cX10_init 274 = .ok (.aload_n 0, 1) := by decide +kernel
theorem dX10_init_275 : decode cX10_init 275 = .ok (.iconst (-1), 1) := by decide +kernel
theorem dX10_init_276 : decode cX10_init 276 = .ok (.putfield 104, 3) := by decide +kernel
theorem dX10_init_279 : decode cX10_init 279 = .ok (.aload_n 0, 1) := by decide +kernel
theorem dX10_init_280 : decode cX10_init 280 = .ok (.iconst (-1), 1) := by decide +kernel
theorem dX10_init_281 : decode cX10_init 281 = .ok (.putfield 108, 3) := by decide +kernel
theorem dX10_init_284 : decode cX10_init 284 = .ok (.return_, 1) := by decide +kernel
theorem dX10_becomes_0 : decode cX10_becomes 0 = .ok (.aload_n 0, 1) := by decide +kernel
theorem dX10_becomes_1 : decode cX10_becomes 1 = .ok (.getfield 9, 3) := by decide +kernel
theorem dX10_becomes_4 : decode cX10_becomes 4 = .ok (.iload_n 1, 1) := by decide +kernel
theorem dX10_becomes_5 : decode cX10_becomes 5 = .ok (.iaload, 1) := by decide +kernel
theorem dX10_becomes_6 : decode cX10_becomes 6 = .ok (.istore_n 3, 1) := by decide +kernel
theorem dX10_becomes_7 : decode cX10_becomes 7 = .ok (.iload_n 3, 1) := by decide +kernel
theorem dX10_becomes_8 : decode cX10_becomes 8 = .ok (.iload_n 2, 1) := by decide +kernel
theorem dX10_becomes_9 : decode cX10_becomes 9 = .ok (.if_icmp .ne 5, 3) := by decide +kernel
theorem dX10_becomes_12 : decode cX10_becomes 12 = .ok (.iload_n 3, 1) := by decide +kernel
theorem dX10_becomes_13 : decode cX10_becomes 13 = .ok (.ireturn, 1) := by decide +kernel
theorem dX10_becomes_14 : decode cX10_becomes 14 = .ok (.aload_n 0, 1) := by decide +kernel
theorem dX10_becomes_15 : decode cX10_becomes 15 = .ok (.getfield 111, 3) := by decide +kernel
theorem dX10_becomes_18 : decode cX10_becomes 18 = .ok (.bipush 40, 2) := by decide +kernel
theorem dX10_becomes_20 : decode cX10_becomes 20 = .ok (.if_icmp .ne 77, 3) := by decide +kernel
theorem dX10_becomes_23 : decode cX10_becomes 23 = .ok (.iconst 1, 1) := by decide +kernel
theorem dX10_becomes_24 : decode cX10_becomes 24 = .ok (.istore 4, 2) := by decide +kernel
theorem dX10_becomes_26 : decode cX10_becomes 26 = .ok (.iload 4, 2) := by decide +kernel
theorem dX10_becomes_28 : decode cX10_becomes 28 = .ok (.bipush 40, 2) := by decide +kernel
theorem dX10_becomes_30 : decode cX10_becomes 30 = .ok (.if_icmp .ge 57, 3) := by decide +kernel
theorem dX10_becomes_33 : decode cX10_becomes 33 = .ok (.aload_n 0, 1) := by decide +kernel
theorem dX10_becomes_34 : decode cX10_becomes 34 = .ok (.getfield 13, 3) := by decide +kernel
theorem dX10_becomes_37 : decode cX10_becomes 37 = .ok (.iload 4, 2) := by decide +kernel
theorem dX10_becomes_39 : decode cX10_becomes 39 = .ok (.iconst 1, 1) := by decide +kernel
theorem dX10_becomes_40 : decode cX10_becomes 40 = .ok (.isub, 1) := by decide +kernel
theorem dX10_becomes_41 : decode cX10_becomes 41 = .ok (.aload_n 0, 1) := by decide +kernel
theorem dX10_becomes_42 : decode cX10_becomes 42 = .ok (.getfield 13, 3) := by decide +kernel
theorem dX10_becomes_45 : decode cX10_becomes 45 = .ok (.iload 4, 2) := by decide +kernel
theorem dX10_becomes_47 : decode cX10_becomes 47 = .ok (.iaload, 1) := by decide +kernel
theorem dX10_becomes_48 : decode cX10_becomes 48 = .ok (.iastore, 1) := by decide +kernel
theorem dX10_becomes_49 : decode cX10_becomes 49 = .ok (.aload_n 0, 1) := by decide +kernel
theorem dX10_becomes_50 : decode cX10_becomes 50 = .ok (.getfield 16, 3) := by decide +kernel
theorem dX10_becomes_53 : decode cX10_becomes 53 = .ok (.iload 4, 2) := by decide +kernel
theorem dX10_becomes_55 : decode cX10_becomes 55 = .ok (.iconst 1, 1) := by decide +kernel
theorem dX10_becomes_56 : decode cX10_becomes 56 = .ok (.isub, 1) := by decide +kernel
theorem dX10_becomes_57 : decode cX10_becomes 57 = .ok (.aload_n 0, 1) := by decide +kernel
theorem dX10_becomes_58 : decode cX10_becomes 58 = .ok (.getfield 16, 3) := by decide +kernel
theorem dX10_becomes_61 : decode cX10_becomes 61 = .ok (.iload 4, 2) := by decide +kernel
theorem dX10_becomes_63 : decode cX10_becomes 63 = .ok (.iaload, 1) := by decide +kernel
theorem dX10_becomes_64 : decode cX10_becomes 64 = .ok (.iastore, 1) := by decide +kernel
theorem dX10_becomes_65 : decode cX10_becomes 65 = .ok (.aload_n 0, 1) := by decide +kernel
theorem dX10_becomes_66 : decode cX10_becomes 66 = .ok (.getfield 19, 3) := by decide +kernel
theorem dX10_becomes_69 : decode cX10_becomes 69 = .ok (.iload 4, 2) := by decide +kernel
theorem dX10_becomes_71 : decode cX10_becomes 71 = .ok (.iconst 1, 1) := by decide +kernel
theorem dX10_becomes_72 : decode cX10_becomes 72 = .ok (.isub, 1) := by decide +kernel
theorem dX10_becomes_73 : decode cX10_becomes 73 = .ok (.aload_n 0, 1) := by decide +kernel
theorem dX10_becomes_74 : decode cX10_becomes 74 = .ok (.getfield 19, 3) := by decide +kernel
theorem dX10_becomes_77 : decode cX10_becomes 77 = .ok (.iload 4, 2) := by decide +kernel
theorem dX10_becomes_79 : decode cX10_becomes 79 = .ok (.iaload, 1) := by decide +kernel
theorem dX10_becomes_80 : decode cX10_becomes 80 = .ok (.iastore, 1) := by decide +kernel
theorem dX10_becomes_81 : decode cX10_becomes 81 = .ok (.iinc 4 1, 3) := by decide +kernel
theorem dX10_becomes_84 : decode cX10_becomes 84 = .ok (.goto (-58), 3) := by decide +kernel
theorem dX10_becomes_87 : decode cX10_becomes 87 = .ok (.aload_n 0, 1) := by decide +kernel
theorem dX10_becomes_88 : decode cX10_becomes 88 = .ok (.dup, 1) := by decide +kernel
theorem dX10_becomes_89 : decode cX10_becomes 89 = .ok (.getfield 111, 3) := by decide +kernel
theorem dX10_becomes_92 : decode cX10_becomes 92 = .ok (.iconst 1, 1) := by decide +kernel
theorem dX10_becomes_93 : decode cX10_becomes 93 = .ok (.isub, 1) := by decide +kernel
theorem dX10_becomes_94 : decode cX10_becomes 94 = .ok (.putfield 111, 3) := by decide +kernel
theorem dX10_becomes_97 : decode cX10_becomes 97 = .ok (.aload_n 0, 1) := by decide +kernel
theorem dX10_becomes_98 : decode cX10_becomes 98 = .ok (.getfield 13, 3) := by decide +kernel
theorem dX10_becomes_101 : decode cX10_becomes 101 = .ok (.aload_n 0, 1) := by decide +kernel
theorem dX10_becomes_102 : decode cX10_becomes 102 = .ok (.getfield 111, 3) := by decide +kernel
theorem dX10_becomes_105 : decode cX10_becomes 105 = .ok (.iload_n 1, 1) := by decide +kernel
theorem dX10_becomes_106 : decode cX10_becomes 106 = .ok (.iastore, 1) := by decide +kernel
theorem dX10_becomes_107 : decode cX10_becomes 107 = .ok (.aload_n 0, 1) := by decide +kernel
theorem dX10_becomes_108 : decode cX10_becomes 108 = .ok (.getfield 16, 3) := by decide +kernel
theorem dX10_becomes_111 : decode cX10_becomes 111 = .ok (.aload_n 0, 1) := by decide +kernel
theorem dX10_becomes_112 : decode cX10_becomes 112 = .ok (.getfield 111, 3) := by decide +kernel
theorem dX10_becomes_115 : decode cX10_becomes 115 = .ok (.iload_n 3, 1) := by decide +kernel
theorem dX10_becomes_116 : decode cX10_becomes 116 = .ok (.iastore, 1) := by decide +kernel
theorem dX10_becomes_117 : decode cX10_becomes 117 = .ok (.aload_n 0, 1) := by decide +kernel
theorem dX10_becomes_118 : decode cX10_becomes 118 = .ok (.getfield 19, 3) := by decide +kernel
theorem dX10_becomes_121 : decode cX10_becomes 121 = .ok (.aload_n 0, 1) := by decide +kernel
theorem dX10_becomes_122 : decode cX10_becomes 122 = .ok (.getfield 111, 3) := by decide +kernel
theorem dX10_becomes_125 : decode cX10_becomes 125 = .ok (.iload_n 2, 1) := by decide +kernel
theorem dX10_becomes_126 : decode cX10_becomes 126 = .ok (.iastore, 1) := by decide +kernel
theorem dX10_becomes_127 : decode cX10_becomes 127 = .ok (.aload_n 0, 1) := by decide +kernel
theorem dX10_becomes_128 : decode cX10_becomes 128 = .ok (.dup, 1) := by decide +kernel
theorem dX10_becomes_129 : decode cX10_becomes 129 = .ok (.getfield 111, 3) := by decide +kernel
theorem dX10_becomes_132 : decode cX10_becomes 132 = .ok (.iconst 1, 1) := by decide +kernel
theorem dX10_becomes_133 : decode cX10_becomes 133 = .ok (.iadd, 1) := by decide +kernel
theorem dX10_becomes_134 : decode cX10_becomes 134 = .ok (.putfield 111, 3) := by decide +kernel
theorem dX10_becomes_137 : decode cX10_becomes 137 = .ok (.aload_n 0, 1) := by decide +kernel
theorem dX10_becomes_138 : decode cX10_becomes 138 = .ok (.aload_n 0, 1) := by decide +kernel
theorem dX10_becomes_139 : decode cX10_becomes 139 = .ok (.getfield 111, 3) := by decide +kernel
theorem dX10_becomes_142 : decode cX10_becomes 142 = .ok (.putfield 114, 3) := by decide +kernel
theorem dX10_becomes_145 : decode cX10_becomes 145 = .ok (.aload_n 0, 1) := by decide +kernel
theorem dX10_becomes_146 : decode cX10_becomes 146 = .ok (.getfield 9, 3) := by decide +kernel
theorem dX10_becomes_149 : decode cX10_becomes 149 = .ok (.iload_n 1, 1) := by decide +kernel
theorem dX10_becomes_150 : decode cX10_becomes 150 = .ok (.iload_n 2, 1) := by decide +kernel
theorem dX10_becomes_151 : decode cX10_becomes 151 = .ok (.iastore, 1) := by decide +kernel
theorem dX10_becomes_152 : decode cX10_becomes 152 = .ok (.iload_n 3, 1) := by decide +kernel
theorem dX10_becomes_153 : decode cX10_becomes 153 = .ok (.ireturn, 1) := by decide +kernel
theorem dX10_undo_0 : decode cX10_undo 0 = .ok (.aload_n 0, 1) := by decide +kernel
theorem dX10_undo_1 : decode cX10_undo 1 = .ok (.getfield 111, 3) := by decide +kernel
theorem dX10_undo_4 : decode cX10_undo 4 = .ok (.ifCond .ne 6, 3) := by decide +kernel
theorem dX10_undo_7 : decode cX10_undo 7 = .ok (.bipush (-5), 2) := by decide +kernel
theorem dX10_undo_9 : decode cX10_undo 9 = .ok (.ireturn, 1) := by decide +kernel
theorem dX10_undo_10 : decode cX10_undo 10 = .ok (.aload_n 0, 1) := by decide +kernel
theorem dX10_undo_11 : decode cX10_undo 11 = .ok (.dup, 1) := by decide +kernel
theorem dX10_undo_12 : decode cX10_undo 12 = .ok (.getfield 111, 3) := by decide +kernel
theorem dX10_undo_15 : decode cX10_undo 15 = .ok (.iconst 1, 1) := by decide +kernel
theorem dX10_undo_16 : decode cX10_undo 16 = .ok (.isub, 1) := by decide +kernel
theorem dX10_undo_17 : decode cX10_undo 17 = .ok (.putfield 111, 3) := by decide +kernel
theorem dX10_undo_20 : decode cX10_undo 20 = .ok (.aload_n 0, 1) := by decide +kernel
theorem dX10_undo_21 : decode cX10_undo 21 = .ok (.getfield 9, 3) := by decide +kernel
theorem dX10_undo_24 : decode cX10_undo 24 = .ok (.aload_n 0, 1) := by decide +kernel
theorem dX10_undo_25 : decode cX10_undo 25 = .ok (.getfield 13, 3) := by decide +kernel
theorem dX10_undo_28 : decode cX10_undo 28 = .ok (.aload_n 0, 1) := by decide +kernel
theorem dX10_undo_29 : decode cX10_undo 29 = .ok (.getfield 111, 3) := by decide +kernel
theorem dX10_undo_32 : decode cX10_undo 32 = .ok (.iaload, 1) := by decide +kernel
theorem dX10_undo_33 : decode cX10_undo 33 = .ok (.aload_n 0, 1) := by decide +kernel
theorem dX10_undo_34 : decode cX10_undo 34 = .ok (.getfield 16, 3) := by decide +kernel
theorem dX10_undo_37 : decode cX10_undo 37 = .ok (.aload_n 0, 1) := by decide +kernel
theorem dX10_undo_38 : decode cX10_undo 38 = .ok (.getfield 111, 3) := by decide +kernel
theorem dX10_undo_41 : decode cX10_undo 41 = .ok (.iaload, 1) := by decide +kernel
theorem dX10_undo_42 : decode cX10_undo 42 = .ok (.iastore, 1) := by decide +kernel
theorem dX10_undo_43 : decode cX10_undo 43 = .ok (.aload_n 0, 1) := by decide +kernel
theorem dX10_undo_44 : decode cX10_undo 44 = .ok (.getfield 111, 3) := by decide +kernel
theorem dX10_undo_47 : decode cX10_undo 47 = .ok (.ireturn, 1) := by decide +kernel
theorem dX10_redo_0 : decode cX10_redo 0 = .ok (.aload_n 0, 1) := by decide +kernel
theorem dX10_redo_1 : decode cX10_redo 1 = .ok (.getfield 111, 3) := by decide +kernel
theorem dX10_redo_4 : decode cX10_redo 4 = .ok (.aload_n 0, 1) := by decide +kernel
theorem dX10_redo_5 : decode cX10_redo 5 = .ok (.getfield 114, 3) := by decide +kernel
theorem dX10_redo_8 : decode cX10_redo 8 = .ok (.if_icmp .ne 6, 3) := by decide +kernel
theorem dX10_redo_11 : decode cX10_redo 11 = .ok (.bipush (-5), 2) := by decide +kernel
theorem dX10_redo_13 : decode cX10_redo 13 = .ok (.ireturn, 1) := by decide +kernel
theorem dX10_redo_14 : decode cX10_redo 14 = .ok (.aload_n 0, 1) := by decide +kernel
theorem dX10_redo_15 : decode cX10_redo 15 = .ok (.getfield 9, 3) := by decide +kernel
theorem dX10_redo_18 : decode cX10_redo 18 = .ok (.aload_n 0, 1) := by decide +kernel
theorem dX10_redo_19 : decode cX10_redo 19 = .ok (.getfield 13, 3) := by decide +kernel
theorem dX10_redo_22 : decode cX10_redo 22 = .ok (.aload_n 0, 1) := by decide +kernel
theorem dX10_redo_23 : decode cX10_redo 23 = .ok (.getfield 111, 3) := by decide +kernel
theorem dX10_redo_26 : decode cX10_redo 26 = .ok (.iaload, 1) := by decide +kernel
theorem dX10_redo_27 : decode cX10_redo 27 = .ok (.aload_n 0, 1) := by decide +kernel
theorem dX10_redo_28 : decode cX10_redo 28 = .ok (.getfield 19, 3) := by decide +kernel
theorem dX10_redo_31 : decode cX10_redo 31 = .ok (.aload_n 0, 1) := by decide +kernel
theorem dX10_redo_32 : decode cX10_redo 32 = .ok (.getfield 111, 3) := by decide +kernel
theorem dX10_redo_35 : decode cX10_redo 35 = .ok (.iaload, 1) := by decide +kernel
theorem dX10_redo_36 : decode cX10_redo 36 = .ok (.iastore, 1) := by decide +kernel
theorem dX10_redo_37 : decode cX10_redo 37 = .ok (.aload_n 0, 1) := by decide +kernel
theorem dX10_redo_38 : decode cX10_redo 38 = .ok (.dup, 1) := by decide +kernel
theorem dX10_redo_39 : decode cX10_redo 39 = .ok (.getfield 111, 3) := by decide +kernel
theorem dX10_redo_42 : decode cX10_redo 42 = .ok (.iconst 1, 1) := by decide +kernel
theorem dX10_redo_43 : decode cX10_redo 43 = .ok (.iadd, 1) := by decide +kernel
theorem dX10_redo_44 : decode cX10_redo 44 = .ok (.putfield 111, 3) := by decide +kernel
theorem dX10_redo_47 : decode cX10_redo 47 = .ok (.aload_n 0, 1) := by decide +kernel
theorem dX10_redo_48 : decode cX10_redo 48 = .ok (.getfield 114, 3) := by decide +kernel
theorem dX10_redo_51 : decode cX10_redo 51 = .ok (.aload_n 0, 1) := by decide +kernel
theorem dX10_redo_52 : decode cX10_redo 52 = .ok (.getfield 111, 3) := by decide +kernel
theorem dX10_redo_55 : decode cX10_redo 55 = .ok (.isub, 1) := by decide +kernel
theorem dX10_redo_56 : decode cX10_redo 56 = .ok (.ireturn, 1) := by decide +kernel
theorem dX10_isStreet_0 : decode cX10_isStreet 0 = .ok (.iload_n 1, 1) := by decide +kernel
theorem dX10_isStreet_1 : decode cX10_isStreet 1 = .ok (.i2l, 1) := by decide +kernel
theorem dX10_isStreet_2 : decode cX10_isStreet 2 = .ok (.lconst 0, 1) := by decide +kernel
theorem dX10_isStreet_3 : decode cX10_isStreet 3 = .ok (.aload_n 0, 1) := by decide +kernel
theorem dX10_isStreet_4 : decode cX10_isStreet 4 = .ok (.getfield 117, 3) := by decide +kernel
theorem dX10_isStreet_7 : decode cX10_isStreet 7 = .ok (.iconst 1, 1) := by decide +kernel
theorem dX10_isStreet_8 : decode cX10_isStreet 8 = .ok (.isub, 1) := by decide +kernel
theorem dX10_isStreet_9 : decode cX10_isStreet 9 = .ok (.i2l, 1) := by decide +kernel
theorem dX10_isStreet_10 : decode cX10_isStreet 10 = .ok (.invokestatic 120, 3) := by decide +kernel
theorem dX10_isStreet_13 : decode cX10_isStreet 13 = .ok (.ireturn, 1) := by decide +kernel
theorem dX10_isWindow_0 : decode cX10_isWindow 0 = .ok (.iload_n 1, 1) := by decide +kernel
theorem dX10_isWindow_1 : decode cX10_isWindow 1 = .ok (.i2l, 1) := by decide +kernel
theorem dX10_isWindow_2 : decode cX10_isWindow 2 = .ok (.lconst 0, 1) := by decide +kernel
theorem dX10_isWindow_3 : decode cX10_isWindow 3 = .ok (.aload_n 0, 1) := by decide +kernel
theorem dX10_isWindow_4 : decode cX10_isWindow 4 = .ok (.getfield 124, 3) := by decide +kernel
theorem dX10_isWindow_7 : decode cX10_isWindow 7 = .ok (.iconst 1, 1) := by decide +kernel
theorem dX10_isWindow_8 : decode cX10_isWindow 8 = .ok (.isub, 1) := by decide +kernel
theorem dX10_isWindow_9 : decode cX10_isWindow 9 = .ok (.i2l, 1) := by decide +kernel
theorem dX10_isWindow_10 : decode cX10_isWindow 10 = .ok (.invokestatic 120, 3) := by decide +kernel
theorem dX10_isWindow_13 : decode cX10_isWindow 13 = .ok (.ireturn, 1) := by decide +kernel
theorem dX10_isPlayer_0 : decode cX10_isPlayer 0 = .ok (.iload_n 1, 1) := by decide +kernel
theorem dX10_isPlayer_1 : decode cX10_isPlayer 1 = .ok (.i2l, 1) := by decide +kernel
theorem dX10_isPlayer_2 : decode cX10_isPlayer 2 = .ok (.lconst 0, 1) := by decide +kernel
theorem dX10_isPlayer_3 : decode cX10_isPlayer 3 = .ok (.aload_n 0, 1) := by decide +kernel
theorem dX10_isPlayer_4 : decode cX10_isPlayer 4 = .ok (.getfield 127, 3) := by decide +kernel
theorem dX10_isPlayer_7 : decode cX10_isPlayer 7 = .ok (.iconst 1, 1) := by decide +kernel
theorem dX10_isPlayer_8 : decode cX10_isPlayer 8 = .ok (.isub, 1) := by decide +kernel
theorem dX10_isPlayer_9 : decode cX10_isPlayer 9 = .ok (.i2l, 1) := by decide +kernel
theorem dX10_isPlayer_10 : decode cX10_isPlayer 10 = .ok (.invokestatic 120, 3) := by decide +kernel
theorem dX10_isPlayer_13 : decode cX10_isPlayer 13 = .ok (.ireturn, 1) := by decide +kernel
theorem dX10_isTwo_0 : decode cX10_isTwo 0 = .ok (.lload_n 0, 1) := by decide +kernel
theorem dX10_isTwo_1 : decode cX10_isTwo 1 = .ok (.lconst 0, 1) := by decide +kernel
theorem dX10_isTwo_2 : decode cX10_isTwo 2 = .ok (.ldc2_w 130, 3) := by decide +kernel
theorem dX10_isTwo_5 : decode cX10_isTwo 5 = .ok (.invokestatic 120, 3) := by decide +kernel
theorem dX10_isTwo_8 : decode cX10_isTwo 8 = .ok (.ireturn, 1) := by decide +kernel
theorem dX10_take_0 : decode cX10_take 0 = .ok (.aload_n 0, 1) := by decide +kernel
theorem dX10_take_1 : decode cX10_take 1 = .ok (.getfield 9, 3) := by decide +kernel
theorem dX10_take_4 : decode cX10_take 4 = .ok (.bipush 60, 2) := by decide +kernel
theorem dX10_take_6 : decode cX10_take 6 = .ok (.iload_n 1, 1) := by decide +kernel
theorem dX10_take_7 : decode cX10_take 7 = .ok (.iadd, 1) := by decide +kernel
theorem dX10_take_8 : decode cX10_take 8 = .ok (.iaload, 1) := by decide +kernel
theorem dX10_take_9 : decode cX10_take 9 = .ok (.ireturn, 1) := by decide +kernel
theorem dX10_street_0 : decode cX10_street 0 = .ok (.iload_n 1, 1) := by decide +kernel
theorem dX10_street_1 : decode cX10_street 1 = .ok (.i2l, 1) := by decide +kernel
theorem dX10_street_2 : decode cX10_street 2 = .ok (.invokestatic 132, 3) := by decide +kernel
theorem dX10_street_5 : decode cX10_street 5 = .ok (.ifCond .eq 11, 3) := by decide +kernel
theorem dX10_street_8 : decode cX10_street 8 = .ok (.iload_n 2, 1) := by decide +kernel
theorem dX10_street_9 : decode cX10_street 9 = .ok (.i2l, 1) := by decide +kernel
theorem dX10_street_10 : decode cX10_street 10 = .ok (.invokestatic 132, 3) := by decide +kernel
theorem dX10_street_13 : decode cX10_street 13 = .ok (.ifCond .ne 5, 3) := by decide +kernel
theorem dX10_street_16 : decode cX10_street 16 = .ok (.iconst (-1), 1) := by decide +kernel
theorem dX10_street_17 : decode cX10_street 17 = .ok (.ireturn, 1) := by decide +kernel
theorem dX10_street_18 : decode cX10_street 18 = .ok (.aload_n 0, 1) := by decide +kernel
theorem dX10_street_19 : decode cX10_street 19 = .ok (.getfield 117, 3) := by decide +kernel
theorem dX10_street_22 : decode cX10_street 22 = .ok (.bipush 6, 2) := by decide +kernel
theorem dX10_street_24 : decode cX10_street 24 = .ok (.if_icmp .ne 6, 3) := by decide +kernel
theorem dX10_street_27 : decode cX10_street 27 = .ok (.bipush (-3), 2) := by decide +kernel
theorem dX10_street_29 : decode cX10_street 29 = .ok (.ireturn, 1) := by decide +kernel
theorem dX10_street_30 : decode cX10_street 30 = .ok (.aload_n 0, 1) := by decide +kernel
theorem dX10_street_31 : decode cX10_street 31 = .ok (.getfield 9, 3) := by decide +kernel
theorem dX10_street_34 : decode cX10_street 34 = .ok (.bipush 60, 2) := by decide +kernel
theorem dX10_street_36 : decode cX10_street 36 = .ok (.aload_n 0, 1) := by decide +kernel
theorem dX10_street_37 : decode cX10_street 37 = .ok (.getfield 117, 3) := by decide +kernel
theorem dX10_street_40 : decode cX10_street 40 = .ok (.iadd, 1) := by decide +kernel
theorem dX10_street_41 : decode cX10_street 41 = .ok (.iload_n 1, 1) := by decide +kernel
theorem dX10_street_42 : decode cX10_street 42 = .ok (.iastore, 1) := by decide +kernel
theorem dX10_street_43 : decode cX10_street 43 = .ok (.aload_n 0, 1) := by decide +kernel
theorem dX10_street_44 : decode cX10_street 44 = .ok (.getfield 22, 3) := by decide +kernel
theorem dX10_street_47 : decode cX10_street 47 = .ok (.aload_n 0, 1) := by decide +kernel
theorem dX10_street_48 : decode cX10_street 48 = .ok (.getfield 117, 3) := by decide +kernel
theorem dX10_street_51 : decode cX10_street 51 = .ok (.iload_n 2, 1) := by decide +kernel
theorem dX10_street_52 : decode cX10_street 52 = .ok (.iastore, 1) := by decide +kernel
theorem dX10_street_53 : decode cX10_street 53 = .ok (.aload_n 0, 1) := by decide +kernel
theorem dX10_street_54 : decode cX10_street 54 = .ok (.getfield 25, 3) := by decide +kernel
theorem dX10_street_57 : decode cX10_street 57 = .ok (.aload_n 0, 1) := by decide +kernel
theorem dX10_street_58 : decode cX10_street 58 = .ok (.getfield 117, 3) := by decide +kernel
theorem dX10_street_61 : decode cX10_street 61 = .ok (.iconst 0, 1) := by decide +kernel
theorem dX10_street_62 : decode cX10_street 62 = .ok (.iastore, 1) := by decide +kernel
theorem dX10_street_63 : decode cX10_street 63 = .ok (.aload_n 0, 1) := by decide +kernel
theorem dX10_street_64 : decode cX10_street 64 = .ok (.getfield 28, 3) := by decide +kernel
theorem dX10_street_67 : decode cX10_street 67 = .ok (.aload_n 0, 1) := by decide +kernel
theorem dX10_street_68 : decode cX10_street 68 = .ok (.getfield 117, 3) := by decide +kernel
theorem dX10_street_71 : decode cX10_street 71 = .ok (.iconst 0, 1) := by decide +kernel
theorem dX10_street_72 : decode cX10_street 72 = .ok (.iastore, 1) := by decide +kernel
theorem dX10_street_73 : decode cX10_street 73 = .ok (.aload_n 0, 1) := by decide +kernel
theorem dX10_street_74 : decode cX10_street 74 = .ok (.dup, 1) := by decide +kernel
theorem dX10_street_75 : decode cX10_street 75 = .ok (.getfield 117, 3) := by decide +kernel
theorem dX10_street_78 : decode cX10_street 78 = .ok (.iconst 1, 1) := by decide +kernel
theorem dX10_street_79 : decode cX10_street 79 = .ok (.iadd, 1) := by decide +kernel
theorem dX10_street_80 : decode cX10_street 80 = .ok (.putfield 117, 3) := by decide +kernel
theorem dX10_street_83 : decode cX10_street 83 = .ok (.aload_n 0, 1) := by decide +kernel
theorem dX10_street_84 : decode cX10_street 84 = .ok (.getfield 117, 3) := by decide +kernel
theorem dX10_street_87 : decode cX10_street 87 = .ok (.iconst 1, 1) := by decide +kernel
theorem dX10_street_88 : decode cX10_street 88 = .ok (.isub, 1) := by decide +kernel
theorem dX10_street_89 : decode cX10_street 89 = .ok (.ireturn, 1) := by decide +kernel
theorem dX10_isOne_0 : decode cX10_isOne 0 = .ok (.lload_n 1, 1) := by decide +kernel
theorem dX10_isOne_1 : decode cX10_isOne 1 = .ok (.lconst 0, 1) := by decide +kernel
theorem dX10_isOne_2 : decode cX10_isOne 2 = .ok (.aload_n 0, 1) := by decide +kernel
theorem dX10_isOne_3 : decode cX10_isOne 3 = .ok (.getfield 117, 3) := by decide +kernel
theorem dX10_isOne_6 : decode cX10_isOne 6 = .ok (.iconst 1, 1) := by decide +kernel
theorem dX10_isOne_7 : decode cX10_isOne 7 = .ok (.isub, 1) := by decide +kernel
theorem dX10_isOne_8 : decode cX10_isOne 8 = .ok (.i2l, 1) := by decide +kernel
theorem dX10_isOne_9 : decode cX10_isOne 9 = .ok (.invokestatic 120, 3) := by decide +kernel
theorem dX10_isOne_12 : decode cX10_isOne 12 = .ok (.ifCond .eq 40, 3) := by decide +kernel
theorem dX10_isOne_15 : decode cX10_isOne 15 = .ok (.lload_n 3, 1) := by decide +kernel
theorem dX10_isOne_16 : decode cX10_isOne 16 = .ok (.invokestatic 132, 3) := by decide +kernel
theorem dX10_isOne_19 : decode cX10_isOne 19 = .ok (.ifCond .eq 33, 3) := by decide +kernel
theorem dX10_isOne_22 : decode cX10_isOne 22 = .ok (.lload 5, 2) := by decide +kernel
theorem dX10_isOne_24 : decode cX10_isOne 24 = .ok (.ldc2_w 136, 3) := by decide +kernel
theorem dX10_isOne_27 : decode cX10_isOne 27 = .ok (.ldc2_w 130, 3) := by decide +kernel
theorem dX10_isOne_30 : decode cX10_isOne 30 = .ok (.invokestatic 120, 3) := by decide +kernel
theorem dX10_isOne_33 : decode cX10_isOne 33 = .ok (.ifCond .eq 19, 3) := by decide +kernel
theorem dX10_isOne_36 : decode cX10_isOne 36 = .ok (.lload 7, 2) := by decide +kernel
theorem dX10_isOne_38 : decode cX10_isOne 38 = .ok (.lconst 0, 1) := by decide +kernel
theorem dX10_isOne_39 : decode cX10_isOne 39 = .ok (.ldc2_w 138, 3) := by decide +kernel
theorem dX10_isOne_42 : decode cX10_isOne 42 = .ok (.invokestatic 120, 3) := by decide +kernel
theorem dX10_isOne_45 : decode cX10_isOne 45 = .ok (.ifCond .eq 7, 3) := by decide +kernel
theorem dX10_isOne_48 : decode cX10_isOne 48 = .ok (.iconst 1, 1) := by decide +kernel
theorem dX10_isOne_49 : decode cX10_isOne 49 = .ok (.goto 4, 3) := by decide +kernel
theorem dX10_isOne_52 : decode cX10_isOne 52 = .ok (.iconst 0, 1) := by decide +kernel
theorem dX10_isOne_53 : decode cX10_isOne 53 = .ok (.ireturn, 1) := by decide +kernel
theorem dX10_adds_0 : decode cX10_adds 0 = .ok (.aload_n 0, 1) := by decide +kernel
theorem dX10_adds_1 : decode cX10_adds 1 = .ok (.getfield 31, 3) := by decide +kernel
theorem dX10_adds_4 : decode cX10_adds 4 = .ok (.aload_n 0, 1) := by decide +kernel
theorem dX10_adds_5 : decode cX10_adds 5 = .ok (.getfield 124, 3) := by decide +kernel
theorem dX10_adds_8 : decode cX10_adds 8 = .ok (.iload_n 1, 1) := by decide +kernel
theorem dX10_adds_9 : decode cX10_adds 9 = .ok (.iastore, 1) := by decide +kernel
theorem dX10_adds_10 : decode cX10_adds 10 = .ok (.aload_n 0, 1) := by decide +kernel
theorem dX10_adds_11 : decode cX10_adds 11 = .ok (.getfield 9, 3) := by decide +kernel
theorem dX10_adds_14 : decode cX10_adds 14 = .ok (.aload_n 0, 1) := by decide +kernel
theorem dX10_adds_15 : decode cX10_adds 15 = .ok (.getfield 124, 3) := by decide +kernel
theorem dX10_adds_18 : decode cX10_adds 18 = .ok (.iload_n 2, 1) := by decide +kernel
theorem dX10_adds_19 : decode cX10_adds 19 = .ok (.iastore, 1) := by decide +kernel
theorem dX10_adds_20 : decode cX10_adds 20 = .ok (.aload_n 0, 1) := by decide +kernel
theorem dX10_adds_21 : decode cX10_adds 21 = .ok (.getfield 9, 3) := by decide +kernel
theorem dX10_adds_24 : decode cX10_adds 24 = .ok (.bipush 30, 2) := by decide +kernel
theorem dX10_adds_26 : decode cX10_adds 26 = .ok (.aload_n 0, 1) := by decide +kernel
theorem dX10_adds_27 : decode cX10_adds 27 = .ok (.getfield 124, 3) := by decide +kernel
theorem dX10_adds_30 : decode cX10_adds 30 = .ok (.iadd, 1) := by decide +kernel
theorem dX10_adds_31 : decode cX10_adds 31 = .ok (.iload_n 3, 1) := by decide +kernel
theorem dX10_adds_32 : decode cX10_adds 32 = .ok (.iastore, 1) := by decide +kernel
theorem dX10_adds_33 : decode cX10_adds 33 = .ok (.aload_n 0, 1) := by decide +kernel
theorem dX10_adds_34 : decode cX10_adds 34 = .ok (.getfield 34, 3) := by decide +kernel
theorem dX10_adds_37 : decode cX10_adds 37 = .ok (.aload_n 0, 1) := by decide +kernel
theorem dX10_adds_38 : decode cX10_adds 38 = .ok (.getfield 124, 3) := by decide +kernel
theorem dX10_adds_41 : decode cX10_adds 41 = .ok (.iload 4, 2) := by decide +kernel
theorem dX10_adds_43 : decode cX10_adds 43 = .ok (.iastore, 1) := by decide +kernel
theorem dX10_adds_44 : decode cX10_adds 44 = .ok (.aload_n 0, 1) := by decide +kernel
theorem dX10_adds_45 : decode cX10_adds 45 = .ok (.dup, 1) := by decide +kernel
theorem dX10_adds_46 : decode cX10_adds 46 = .ok (.getfield 124, 3) := by decide +kernel
theorem dX10_adds_49 : decode cX10_adds 49 = .ok (.iconst 1, 1) := by decide +kernel
theorem dX10_adds_50 : decode cX10_adds 50 = .ok (.iadd, 1) := by decide +kernel
theorem dX10_adds_51 : decode cX10_adds 51 = .ok (.putfield 124, 3) := by decide +kernel
theorem dX10_adds_54 : decode cX10_adds 54 = .ok (.return_, 1) := by decide +kernel
theorem dX10_window_0 : decode cX10_window 0 = .ok (.iload_n 1, 1) := by decide +kernel
theorem dX10_window_1 : decode cX10_window 1 = .ok (.ifCond .lt 39, 3) := by decide +kernel
theorem dX10_window_4 : decode cX10_window 4 = .ok (.iload_n 2, 1) := by decide +kernel
theorem dX10_window_5 : decode cX10_window 5 = .ok (.ifCond .lt 35, 3) := by decide +kernel
theorem dX10_window_8 : decode cX10_window 8 = .ok (.aload_n 0, 1) := by decide +kernel
theorem dX10_window_9 : decode cX10_window 9 = .ok (.iload_n 1, 1) := by decide +kernel
theorem dX10_window_10 : decode cX10_window 10 = .ok (.bipush 100, 2) := by decide +kernel
theorem dX10_window_12 : decode cX10_window 12 = .ok (.idiv, 1) := by decide +kernel
theorem dX10_window_13 : decode cX10_window 13 = .ok (.i2l, 1) := by decide +kernel
theorem dX10_window_14 : decode cX10_window 14 = .ok (.iload_n 1, 1) := by decide +kernel
theorem dX10_window_15 : decode cX10_window 15 = .ok (.bipush 100, 2) := by decide +kernel
theorem dX10_window_17 : decode cX10_window 17 = .ok (.irem, 1) := by decide +kernel
theorem dX10_window_18 : decode cX10_window 18 = .ok (.i2l, 1) := by decide +kernel
theorem dX10_window_19 : decode cX10_window 19 = .ok (.iload_n 2, 1) := by decide +kernel
theorem dX10_window_20 : decode cX10_window 20 = .ok (.sipush 1000, 3) := by decide +kernel
theorem dX10_window_23 : decode cX10_window 23 = .ok (.idiv, 1) := by decide +kernel
theorem dX10_window_24 : decode cX10_window 24 = .ok (.bipush 99, 2) := by decide +kernel
theorem dX10_window_26 : decode cX10_window 26 = .ok (.isub, 1) := by decide +kernel
theorem dX10_window_27 : decode cX10_window 27 = .ok (.i2l, 1) := by decide +kernel
theorem dX10_window_28 : decode cX10_window 28 = .ok (.iload_n 2, 1) := by decide +kernel
theorem dX10_window_29 : decode cX10_window 29 = .ok (.sipush 1000, 3) := by decide +kernel
theorem dX10_window_32 : decode cX10_window 32 = .ok (.irem, 1) := by decide +kernel
theorem dX10_window_33 : decode cX10_window 33 = .ok (.i2l, 1) := by decide +kernel
theorem dX10_window_34 : decode cX10_window 34 = .ok (.invokevirtual 140, 3) := by decide +kernel
theorem dX10_window_37 : decode cX10_window 37 = .ok (.ifCond .ne 5, 3) := by decide +kernel
theorem dX10_window_40 : decode cX10_window 40 = .ok (.iconst (-1), 1) := by decide +kernel
theorem dX10_window_41 : decode cX10_window 41 = .ok (.ireturn, 1) := by decide +kernel
theorem dX10_window_42 : decode cX10_window 42 = .ok (.aload_n 0, 1) := by decide +kernel
theorem dX10_window_43 : decode cX10_window 43 = .ok (.getfield 124, 3) := by decide +kernel
theorem dX10_window_46 : decode cX10_window 46 = .ok (.bipush 30, 2) := by decide +kernel
theorem dX10_window_48 : decode cX10_window 48 = .ok (.if_icmp .ne 6, 3) := by decide +kernel
theorem dX10_window_51 : decode cX10_window 51 = .ok (.bipush (-3), 2) := by decide +kernel
theorem dX10_window_53 : decode cX10_window 53 = .ok (.ireturn, 1) := by decide +kernel
theorem dX10_window_54 : decode cX10_window 54 = .ok (.aload_n 0, 1) := by decide +kernel
theorem dX10_window_55 : decode cX10_window 55 = .ok (.iload_n 1, 1) := by decide +kernel
theorem dX10_window_56 : decode cX10_window 56 = .ok (.bipush 100, 2) := by decide +kernel
theorem dX10_window_58 : decode cX10_window 58 = .ok (.idiv, 1) := by decide +kernel
theorem dX10_window_59 : decode cX10_window 59 = .ok (.iload_n 1, 1) := by decide +kernel
theorem dX10_window_60 : decode cX10_window 60 = .ok (.bipush 100, 2) := by decide +kernel
theorem dX10_window_62 : decode cX10_window 62 = .ok (.irem, 1) := by decide +kernel
theorem dX10_window_63 : decode cX10_window 63 = .ok (.iload_n 2, 1) := by decide +kernel
theorem dX10_window_64 : decode cX10_window 64 = .ok (.sipush 1000, 3) := by decide +kernel
theorem dX10_window_67 : decode cX10_window 67 = .ok (.idiv, 1) := by decide +kernel
theorem dX10_window_68 : decode cX10_window 68 = .ok (.bipush 99, 2) := by decide +kernel
theorem dX10_window_70 : decode cX10_window 70 = .ok (.isub, 1) := by decide +kernel
theorem dX10_window_71 : decode cX10_window 71 = .ok (.iload_n 2, 1) := by decide +kernel
theorem dX10_window_72 : decode cX10_window 72 = .ok (.sipush 1000, 3) := by decide +kernel
theorem dX10_window_75 : decode cX10_window 75 = .ok (.irem, 1) := by decide +kernel
theorem dX10_window_76 : decode cX10_window 76 = .ok (.invokevirtual 144, 3) := by decide +kernel
theorem dX10_window_79 : decode cX10_window 79 = .ok (.aload_n 0, 1) := by decide +kernel
theorem dX10_window_80 : decode cX10_window 80 = .ok (.getfield 124, 3) := by decide +kernel
theorem dX10_window_83 : decode cX10_window 83 = .ok (.iconst 1, 1) := by decide +kernel
theorem dX10_window_84 : decode cX10_window 84 = .ok (.isub, 1) := by decide +kernel
theorem dX10_window_85 : decode cX10_window 85 = .ok (.ireturn, 1) := by decide +kernel
theorem dX10_windows_0 : decode cX10_windows 0 = .ok (.iload_n 1, 1) := by decide +kernel
theorem dX10_windows_1 : decode cX10_windows 1 = .ok (.invokestatic 148, 3) := by decide +kernel
theorem dX10_windows_4 : decode cX10_windows 4 = .ok (.ifCond .eq 15, 3) := by decide +kernel
theorem dX10_windows_7 : decode cX10_windows 7 = .ok (.iload_n 3, 1) := by decide +kernel
theorem dX10_windows_8 : decode cX10_windows 8 = .ok (.i2l, 1) := by decide +kernel
theorem dX10_windows_9 : decode cX10_windows 9 = .ok (.lconst 1, 1) := by decide +kernel
theorem dX10_windows_10 : decode cX10_windows 10 = .ok (.ldc2_w 152, 3) := by decide +kernel
theorem dX10_windows_13 : decode cX10_windows 13 = .ok (.invokestatic 120, 3) := by decide +kernel
theorem dX10_windows_16 : decode cX10_windows 16 = .ok (.ifCond .ne 5, 3) := by decide +kernel
theorem dX10_windows_19 : decode cX10_windows 19 = .ok (.iconst (-1), 1) := by decide +kernel
theorem dX10_windows_20 : decode cX10_windows 20 = .ok (.ireturn, 1) := by decide +kernel
theorem dX10_windows_21 : decode cX10_windows 21 = .ok (.aload_n 0, 1) := by decide +kernel
theorem dX10_windows_22 : decode cX10_windows 22 = .ok (.getfield 91, 3) := by decide +kernel
theorem dX10_windows_25 : decode cX10_windows 25 = .ok (.iload_n 1, 1) := by decide +kernel
theorem dX10_windows_26 : decode cX10_windows 26 = .ok (.iaload, 1) := by decide +kernel
theorem dX10_windows_27 : decode cX10_windows 27 = .ok (.ifCond .lt 17, 3) := by decide +kernel
theorem dX10_windows_30 : decode cX10_windows 30 = .ok (.aload_n 0, 1) := by decide +kernel
theorem dX10_windows_31 : decode cX10_windows 31 = .ok (.getfield 91, 3) := by decide +kernel
theorem dX10_windows_34 : decode cX10_windows 34 = .ok (.iload_n 1, 1) := by decide +kernel
theorem dX10_windows_35 : decode cX10_windows 35 = .ok (.iaload, 1) := by decide +kernel
theorem dX10_windows_36 : decode cX10_windows 36 = .ok (.bipush 51, 2) := by decide +kernel
theorem dX10_windows_38 : decode cX10_windows 38 = .ok (.if_icmp .eq 6, 3) := by decide +kernel
theorem dX10_windows_41 : decode cX10_windows 41 = .ok (.bipush (-12), 2) := by decide +kernel
theorem dX10_windows_43 : decode cX10_windows 43 = .ok (.ireturn, 1) := by decide +kernel
theorem dX10_windows_44 : decode cX10_windows 44 = .ok (.iconst 0, 1) := by decide +kernel
theorem dX10_windows_45 : decode cX10_windows 45 = .ok (.istore 4, 2) := by decide +kernel
theorem dX10_windows_47 : decode cX10_windows 47 = .ok (.aload_n 0, 1) := by decide +kernel
theorem dX10_windows_48 : decode cX10_windows 48 = .ok (.getfield 91, 3) := by decide +kernel
theorem dX10_windows_51 : decode cX10_windows 51 = .ok (.iload_n 1, 1) := by decide +kernel
theorem dX10_windows_52 : decode cX10_windows 52 = .ok (.iaload, 1) := by decide +kernel
theorem dX10_windows_53 : decode cX10_windows 53 = .ok (.bipush 51, 2) := by decide +kernel
theorem dX10_windows_55 : decode cX10_windows 55 = .ok (.if_icmp .ne 11, 3) := by decide +kernel
theorem dX10_windows_58 : decode cX10_windows 58 = .ok (.iload_n 2, 1) := by decide +kernel
theorem dX10_windows_59 : decode cX10_windows 59 = .ok (.ifCond .lt 7, 3) := by decide +kernel
theorem dX10_windows_62 : decode cX10_windows 62 = .ok (.iconst 1, 1) := by decide +kernel
theorem dX10_windows_63 : decode cX10_windows 63 = .ok (.goto 4, 3) := by decide +kernel
theorem dX10_windows_66 : decode cX10_windows 66 = .ok (.iconst 0, 1) := by decide +kernel
theorem dX10_windows_67 : decode cX10_windows 67 = .ok (.istore 5, 2) := by decide +kernel
theorem dX10_windows_69 : decode cX10_windows 69 = .ok (.iload 5, 2) := by decide +kernel
theorem dX10_windows_71 : decode cX10_windows 71 = .ok (.ifCond .eq 161, 3) := by decide +kernel
theorem dX10_windows_74 : decode cX10_windows 74 = .ok (.iload 4, 2) := by decide +kernel
theorem dX10_windows_76 : decode cX10_windows 76 = .ok (.iload_n 3, 1) := by decide +kernel
theorem dX10_windows_77 : decode cX10_windows 77 = .ok (.if_icmp .ge 155, 3) := by decide +kernel
theorem dX10_windows_80 : decode cX10_windows 80 = .ok (.iload_n 2, 1) := by decide +kernel
theorem dX10_windows_81 : decode cX10_windows 81 = .ok (.aload_n 0, 1) := by decide +kernel
theorem dX10_windows_82 : decode cX10_windows 82 = .ok (.getfield 94, 3) := by decide +kernel
theorem dX10_windows_85 : decode cX10_windows 85 = .ok (.iload_n 1, 1) := by decide +kernel
theorem dX10_windows_86 : decode cX10_windows 86 = .ok (.iaload, 1) := by decide +kernel
theorem dX10_windows_87 : decode cX10_windows 87 = .ok (.iconst 4, 1) := by decide +kernel
theorem dX10_windows_88 : decode cX10_windows 88 = .ok (.isub, 1) := by decide +kernel
theorem dX10_windows_89 : decode cX10_windows 89 = .ok (.iconst 4, 1) := by decide +kernel
theorem dX10_windows_90 : decode cX10_windows 90 = .ok (.iload 4, 2) := by decide +kernel
theorem dX10_windows_92 : decode cX10_windows 92 = .ok (.imul, 1) := by decide +kernel
theorem dX10_windows_93 : decode cX10_windows 93 = .ok (.isub, 1) := by decide +kernel
theorem dX10_windows_94 : decode cX10_windows 94 = .ok (.if_icmp .gt 16, 3) := by decide +kernel
theorem dX10_windows_97 : decode cX10_windows 97 = .ok (.aload_n 0, 1) := by decide +kernel
theorem dX10_windows_98 : decode cX10_windows 98 = .ok (.getfield 124, 3) := by decide +kernel
theorem dX10_windows_101 : decode cX10_windows 101 = .ok (.bipush 30, 2) := by decide +kernel
theorem dX10_windows_103 : decode cX10_windows 103 = .ok (.if_icmp .ge 7, 3) := by decide +kernel
theorem dX10_windows_106 : decode cX10_windows 106 = .ok (.iconst 1, 1) := by decide +kernel
theorem dX10_windows_107 : decode cX10_windows 107 = .ok (.goto 4, 3) := by decide +kernel
theorem dX10_windows_110 : decode cX10_windows 110 = .ok (.iconst 0, 1) := by decide +kernel
theorem dX10_windows_111 : decode cX10_windows 111 = .ok (.istore 5, 2) := by decide +kernel
theorem dX10_windows_113 : decode cX10_windows 113 = .ok (.bipush 60, 2) := by decide +kernel
theorem dX10_windows_115 : decode cX10_windows 115 = .ok (.iload_n 1, 1) := by decide +kernel
theorem dX10_windows_116 : decode cX10_windows 116 = .ok (.imul, 1) := by decide +kernel
theorem dX10_windows_117 : decode cX10_windows 117 = .ok (.iload_n 2, 1) := by decide +kernel
theorem dX10_windows_118 : decode cX10_windows 118 = .ok (.iadd, 1) := by decide +kernel
theorem dX10_windows_119 : decode cX10_windows 119 = .ok (.iconst 4, 1) := by decide +kernel
theorem dX10_windows_120 : decode cX10_windows 120 = .ok (.iload 4, 2) := by decide +kernel
theorem dX10_windows_122 : decode cX10_windows 122 = .ok (.imul, 1) := by decide +kernel
theorem dX10_windows_123 : decode cX10_windows 123 = .ok (.iadd, 1) := by decide +kernel
theorem dX10_windows_124 : decode cX10_windows 124 = .ok (.istore 6, 2) := by decide +kernel
theorem dX10_windows_126 : decode cX10_windows 126 = .ok (.iload 5, 2) := by decide +kernel
theorem dX10_windows_128 : decode cX10_windows 128 = .ok (.ifCond .eq 48, 3) := by decide +kernel
theorem dX10_windows_131 : decode cX10_windows 131 = .ok (.aload_n 0, 1) := by decide +kernel
theorem dX10_windows_132 : decode cX10_windows 132 = .ok (.aload_n 0, 1) := by decide +kernel
theorem dX10_windows_133 : decode cX10_windows 133 = .ok (.getfield 97, 3) := by decide +kernel
theorem dX10_windows_136 : decode cX10_windows 136 = .ok (.iload 6, 2) := by decide +kernel
theorem dX10_windows_138 : decode cX10_windows 138 = .ok (.laload, 1) := by decide +kernel
theorem dX10_windows_139 : decode cX10_windows 139 = .ok (.aload_n 0, 1) := by decide +kernel
theorem dX10_windows_140 : decode cX10_windows 140 = .ok (.getfield 97, 3) := by decide +kernel
theorem dX10_windows_143 : decode cX10_windows 143 = .ok (.iload 6, 2) := by decide +kernel
theorem dX10_windows_145 : decode cX10_windows 145 = .ok (.iconst 1, 1) := by decide +kernel
theorem dX10_windows_146 : decode cX10_windows 146 = .ok (.iadd, 1) := by decide +kernel
theorem dX10_windows_147 : decode cX10_windows 147 = .ok (.laload, 1) := by decide +kernel
theorem dX10_windows_148 : decode cX10_windows 148 = .ok (.aload_n 0, 1) := by decide +kernel
theorem dX10_windows_149 : decode cX10_windows 149 = .ok (.getfield 97, 3) := by decide +kernel
theorem dX10_windows_152 : decode cX10_windows 152 = .ok (.iload 6, 2) := by decide +kernel
theorem dX10_windows_154 : decode cX10_windows 154 = .ok (.iconst 2, 1) := by decide +kernel
theorem dX10_windows_155 : decode cX10_windows 155 = .ok (.iadd, 1) := by decide +kernel
theorem dX10_windows_156 : decode cX10_windows 156 = .ok (.laload, 1) := by decide +kernel
theorem dX10_windows_157 : decode cX10_windows 157 = .ok (.aload_n 0, 1) := by decide +kernel
theorem dX10_windows_158 : decode cX10_windows 158 = .ok (.getfield 97, 3) := by decide +kernel
theorem dX10_windows_161 : decode cX10_windows 161 = .ok (.iload 6, 2) := by decide +kernel
theorem dX10_windows_163 : decode cX10_windows 163 = .ok (.iconst 3, 1) := by decide +kernel
theorem dX10_windows_164 : decode cX10_windows 164 = .ok (.iadd, 1) := by decide +kernel
theorem dX10_windows_165 : decode cX10_windows 165 = .ok (.laload, 1) := by decide +kernel
theorem dX10_windows_166 : decode cX10_windows 166 = .ok (.invokevirtual 140, 3) := by decide +kernel
theorem dX10_windows_169 : decode cX10_windows 169 = .ok (.ifCond .eq 7, 3) := by decide +kernel
theorem dX10_windows_172 : decode cX10_windows 172 = .ok (.iconst 1, 1) := by decide +kernel
theorem dX10_windows_173 : decode cX10_windows 173 = .ok (.goto 4, 3) := by decide +kernel
theorem dX10_windows_176 : decode cX10_windows 176 = .ok (.iconst 0, 1) := by decide +kernel
theorem dX10_windows_177 : decode cX10_windows 177 = .ok (.istore 5, 2) := by decide +kernel
theorem dX10_windows_179 : decode cX10_windows 179 = .ok (.iload 5, 2) := by decide +kernel
theorem dX10_windows_181 : decode cX10_windows 181 = .ok (.ifCond .eq 48, 3) := by decide +kernel
theorem dX10_windows_184 : decode cX10_windows 184 = .ok (.aload_n 0, 1) := by decide +kernel
theorem dX10_windows_185 : decode cX10_windows 185 = .ok (.aload_n 0, 1) := by decide +kernel
theorem dX10_windows_186 : decode cX10_windows 186 = .ok (.getfield 97, 3) := by decide +kernel
theorem dX10_windows_189 : decode cX10_windows 189 = .ok (.iload 6, 2) := by decide +kernel
theorem dX10_windows_191 : decode cX10_windows 191 = .ok (.laload, 1) := by decide +kernel
theorem dX10_windows_192 : decode cX10_windows 192 = .ok (.l2i, 1) := by decide +kernel
theorem dX10_windows_193 : decode cX10_windows 193 = .ok (.aload_n 0, 1) := by decide +kernel
theorem dX10_windows_194 : decode cX10_windows 194 = .ok (.getfield 97, 3) := by decide +kernel
theorem dX10_windows_197 : decode cX10_windows 197 = .ok (.iload 6, 2) := by decide +kernel
theorem dX10_windows_199 : decode cX10_windows 199 = .ok (.iconst 1, 1) := by decide +kernel
theorem dX10_windows_200 : decode cX10_windows 200 = .ok (.iadd, 1) := by decide +kernel
theorem dX10_windows_201 : decode cX10_windows 201 = .ok (.laload, 1) := by decide +kernel
theorem dX10_windows_202 : decode cX10_windows 202 = .ok (.l2i, 1) := by decide +kernel
theorem dX10_windows_203 : decode cX10_windows 203 = .ok (.aload_n 0, 1) := by decide +kernel
theorem dX10_windows_204 : decode cX10_windows 204 = .ok (.getfield 97, 3) := by decide +kernel
theorem dX10_windows_207 : decode cX10_windows 207 = .ok (.iload 6, 2) := by decide +kernel
theorem dX10_windows_209 : decode cX10_windows 209 = .ok (.iconst 2, 1) := by decide +kernel
theorem dX10_windows_210 : decode cX10_windows 210 = .ok (.iadd, 1) := by decide +kernel
theorem dX10_windows_211 : decode cX10_windows 211 = .ok (.laload, 1) := by decide +kernel
theorem dX10_windows_212 : decode cX10_windows 212 = .ok (.l2i, 1) := by decide +kernel
theorem dX10_windows_213 : decode cX10_windows 213 = .ok (.aload_n 0, 1) := by decide +kernel
theorem dX10_windows_214 : decode cX10_windows 214 = .ok (.getfield 97, 3) := by decide +kernel
theorem dX10_windows_217 : decode cX10_windows 217 = .ok (.iload 6, 2) := by decide +kernel
theorem dX10_windows_219 : decode cX10_windows 219 = .ok (.iconst 3, 1) := by decide +kernel
theorem dX10_windows_220 : decode cX10_windows 220 = .ok (.iadd, 1) := by decide +kernel
theorem dX10_windows_221 : decode cX10_windows 221 = .ok (.laload, 1) := by decide +kernel
theorem dX10_windows_222 : decode cX10_windows 222 = .ok (.l2i, 1) := by decide +kernel
theorem dX10_windows_223 : decode cX10_windows 223 = .ok (.invokevirtual 144, 3) := by decide +kernel
theorem dX10_windows_226 : decode cX10_windows 226 = .ok (.iinc 4 1, 3) := by decide +kernel
theorem dX10_windows_229 : decode cX10_windows 229 = .ok (.goto (-160), 3) := by decide +kernel
theorem dX10_windows_232 : decode cX10_windows 232 = .ok (.iload 4, 2) := by decide +kernel
theorem dX10_windows_234 : decode cX10_windows 234 = .ok (.ireturn, 1) := by decide +kernel
theorem dX10_player_0 : decode cX10_player 0 = .ok (.iload_n 1, 1) := by decide +kernel
theorem dX10_player_1 : decode cX10_player 1 = .ok (.i2l, 1) := by decide +kernel
theorem dX10_player_2 : decode cX10_player 2 = .ok (.lconst 0, 1) := by decide +kernel
theorem dX10_player_3 : decode cX10_player 3 = .ok (.ldc2_w 154, 3) := by decide +kernel
theorem dX10_player_6 : decode cX10_player 6 = .ok (.invokestatic 120, 3) := by decide +kernel
theorem dX10_player_9 : decode cX10_player 9 = .ok (.ifCond .eq 28, 3) := by decide +kernel
theorem dX10_player_12 : decode cX10_player 12 = .ok (.iload_n 2, 1) := by decide +kernel
theorem dX10_player_13 : decode cX10_player 13 = .ok (.i2l, 1) := by decide +kernel
theorem dX10_player_14 : decode cX10_player 14 = .ok (.lconst 0, 1) := by decide +kernel
theorem dX10_player_15 : decode cX10_player 15 = .ok (.ldc2_w 156, 3) := by decide +kernel
theorem dX10_player_18 : decode cX10_player 18 = .ok (.invokestatic 120, 3) := by decide +kernel
theorem dX10_player_21 : decode cX10_player 21 = .ok (.ifCond .eq 16, 3) := by decide +kernel
theorem dX10_player_24 : decode cX10_player 24 = .ok (.iload_n 3, 1) := by decide +kernel
theorem dX10_player_25 : decode cX10_player 25 = .ok (.iconst (-1), 1) := by decide +kernel
theorem dX10_player_26 : decode cX10_player 26 = .ok (.if_icmp .eq 13, 3) := by decide +kernel
theorem dX10_player_29 : decode cX10_player 29 = .ok (.aload_n 0, 1) := by decide +kernel
theorem dX10_player_30 : decode cX10_player 30 = .ok (.iload_n 3, 1) := by decide +kernel
theorem dX10_player_31 : decode cX10_player 31 = .ok (.invokevirtual 158, 3) := by decide +kernel
theorem dX10_player_34 : decode cX10_player 34 = .ok (.ifCond .ne 5, 3) := by decide +kernel
theorem dX10_player_37 : decode cX10_player 37 = .ok (.iconst (-1), 1) := by decide +kernel
theorem dX10_player_38 : decode cX10_player 38 = .ok (.ireturn, 1) := by decide +kernel
theorem dX10_player_39 : decode cX10_player 39 = .ok (.aload_n 0, 1) := by decide +kernel
theorem dX10_player_40 : decode cX10_player 40 = .ok (.getfield 127, 3) := by decide +kernel
theorem dX10_player_43 : decode cX10_player 43 = .ok (.bipush 8, 2) := by decide +kernel
theorem dX10_player_45 : decode cX10_player 45 = .ok (.if_icmp .ne 6, 3) := by decide +kernel
theorem dX10_player_48 : decode cX10_player 48 = .ok (.bipush (-3), 2) := by decide +kernel
theorem dX10_player_50 : decode cX10_player 50 = .ok (.ireturn, 1) := by decide +kernel
theorem dX10_player_51 : decode cX10_player 51 = .ok (.aload_n 0, 1) := by decide +kernel
theorem dX10_player_52 : decode cX10_player 52 = .ok (.getfield 37, 3) := by decide +kernel
theorem dX10_player_55 : decode cX10_player 55 = .ok (.aload_n 0, 1) := by decide +kernel
theorem dX10_player_56 : decode cX10_player 56 = .ok (.getfield 127, 3) := by decide +kernel
theorem dX10_player_59 : decode cX10_player 59 = .ok (.iload_n 1, 1) := by decide +kernel
theorem dX10_player_60 : decode cX10_player 60 = .ok (.bipush 100, 2) := by decide +kernel
theorem dX10_player_62 : decode cX10_player 62 = .ok (.idiv, 1) := by decide +kernel
theorem dX10_player_63 : decode cX10_player 63 = .ok (.iastore, 1) := by decide +kernel
theorem dX10_player_64 : decode cX10_player 64 = .ok (.aload_n 0, 1) := by decide +kernel
theorem dX10_player_65 : decode cX10_player 65 = .ok (.getfield 40, 3) := by decide +kernel
theorem dX10_player_68 : decode cX10_player 68 = .ok (.aload_n 0, 1) := by decide +kernel
theorem dX10_player_69 : decode cX10_player 69 = .ok (.getfield 127, 3) := by decide +kernel
theorem dX10_player_72 : decode cX10_player 72 = .ok (.iload_n 1, 1) := by decide +kernel
theorem dX10_player_73 : decode cX10_player 73 = .ok (.bipush 100, 2) := by decide +kernel
theorem dX10_player_75 : decode cX10_player 75 = .ok (.irem, 1) := by decide +kernel
theorem dX10_player_76 : decode cX10_player 76 = .ok (.iastore, 1) := by decide +kernel
theorem dX10_player_77 : decode cX10_player 77 = .ok (.aload_n 0, 1) := by decide +kernel
theorem dX10_player_78 : decode cX10_player 78 = .ok (.getfield 43, 3) := by decide +kernel
theorem dX10_player_81 : decode cX10_player 81 = .ok (.aload_n 0, 1) := by decide +kernel
theorem dX10_player_82 : decode cX10_player 82 = .ok (.getfield 127, 3) := by decide +kernel
theorem dX10_player_85 : decode cX10_player 85 = .ok (.iload_n 2, 1) := by decide +kernel
theorem dX10_player_86 : decode cX10_player 86 = .ok (.iastore, 1) := by decide +kernel
theorem dX10_player_87 : decode cX10_player 87 = .ok (.aload_n 0, 1) := by decide +kernel
theorem dX10_player_88 : decode cX10_player 88 = .ok (.getfield 46, 3) := by decide +kernel
theorem dX10_player_91 : decode cX10_player 91 = .ok (.aload_n 0, 1) := by decide +kernel
theorem dX10_player_92 : decode cX10_player 92 = .ok (.getfield 127, 3) := by decide +kernel
theorem dX10_player_95 : decode cX10_player 95 = .ok (.iload_n 3, 1) := by decide +kernel
theorem dX10_player_96 : decode cX10_player 96 = .ok (.iastore, 1) := by decide +kernel
theorem dX10_player_97 : decode cX10_player 97 = .ok (.aload_n 0, 1) := by decide +kernel
theorem dX10_player_98 : decode cX10_player 98 = .ok (.dup, 1) := by decide +kernel
theorem dX10_player_99 : decode cX10_player 99 = .ok (.getfield 127, 3) := by decide +kernel
theorem dX10_player_102 : decode cX10_player 102 = .ok (.iconst 1, 1) := by decide +kernel
theorem dX10_player_103 : decode cX10_player 103 = .ok (.iadd, 1) := by decide +kernel
theorem dX10_player_104 : decode cX10_player 104 = .ok (.putfield 127, 3) := by decide +kernel
theorem dX10_player_107 : decode cX10_player 107 = .ok (.aload_n 0, 1) := by decide +kernel
theorem dX10_player_108 : decode cX10_player 108 = .ok (.getfield 127, 3) := by decide +kernel
theorem dX10_player_111 : decode cX10_player 111 = .ok (.iconst 1, 1) := by decide +kernel
theorem dX10_player_112 : decode cX10_player 112 = .ok (.isub, 1) := by decide +kernel
theorem dX10_player_113 : decode cX10_player 113 = .ok (.ireturn, 1) := by decide +kernel
theorem dX10_mend_0 : decode cX10_mend 0 = .ok (.iload_n 2, 1) := by decide +kernel
theorem dX10_mend_1 : decode cX10_mend 1 = .ok (.tableswitch 123 0 2 #[27, 55, 92], 27) := by decide +kernel
theorem dX10_mend_28 : decode cX10_mend 28 = .ok (.aload_n 0, 1) := by decide +kernel
theorem dX10_mend_29 : decode cX10_mend 29 = .ok (.iload_n 1, 1) := by decide +kernel
theorem dX10_mend_30 : decode cX10_mend 30 = .ok (.invokevirtual 161, 3) := by decide +kernel
theorem dX10_mend_33 : decode cX10_mend 33 = .ok (.ifCond .eq 20, 3) := by decide +kernel
theorem dX10_mend_36 : decode cX10_mend 36 = .ok (.iload_n 3, 1) := by decide +kernel
theorem dX10_mend_37 : decode cX10_mend 37 = .ok (.i2l, 1) := by decide +kernel
theorem dX10_mend_38 : decode cX10_mend 38 = .ok (.invokestatic 132, 3) := by decide +kernel
theorem dX10_mend_41 : decode cX10_mend 41 = .ok (.ifCond .eq 12, 3) := by decide +kernel
theorem dX10_mend_44 : decode cX10_mend 44 = .ok (.aload_n 0, 1) := by decide +kernel
theorem dX10_mend_45 : decode cX10_mend 45 = .ok (.iload_n 1, 1) := by decide +kernel
theorem dX10_mend_46 : decode cX10_mend 46 = .ok (.iload_n 3, 1) := by decide +kernel
theorem dX10_mend_47 : decode cX10_mend 47 = .ok (.invokevirtual 164, 3) := by decide +kernel
theorem dX10_mend_50 : decode cX10_mend 50 = .ok (.goto 5, 3) := by decide +kernel
theorem dX10_mend_53 : decode cX10_mend 53 = .ok (.ldc 168, 2) := by decide +kernel
theorem dX10_mend_55 : decode cX10_mend 55 = .ok (.ireturn, 1) := by decide +kernel
theorem dX10_mend_56 : decode cX10_mend 56 = .ok (.aload_n 0, 1) := by decide +kernel
theorem dX10_mend_57 : decode cX10_mend 57 = .ok (.iload_n 1, 1) := by decide +kernel
theorem dX10_mend_58 : decode cX10_mend 58 = .ok (.invokevirtual 161, 3) := by decide +kernel
theorem dX10_mend_61 : decode cX10_mend 61 = .ok (.ifCond .eq 29, 3) := by decide +kernel
theorem dX10_mend_64 : decode cX10_mend 64 = .ok (.iload_n 3, 1) := by decide +kernel
theorem dX10_mend_65 : decode cX10_mend 65 = .ok (.i2l, 1) := by decide +kernel
theorem dX10_mend_66 : decode cX10_mend 66 = .ok (.ldc2_w 136, 3) := by decide +kernel
theorem dX10_mend_69 : decode cX10_mend 69 = .ok (.ldc2_w 130, 3) := by decide +kernel
theorem dX10_mend_72 : decode cX10_mend 72 = .ok (.invokestatic 120, 3) := by decide +kernel
theorem dX10_mend_75 : decode cX10_mend 75 = .ok (.ifCond .eq 15, 3) := by decide +kernel
theorem dX10_mend_78 : decode cX10_mend 78 = .ok (.aload_n 0, 1) := by decide +kernel
theorem dX10_mend_79 : decode cX10_mend 79 = .ok (.bipush 30, 2) := by decide +kernel
theorem dX10_mend_81 : decode cX10_mend 81 = .ok (.iload_n 1, 1) := by decide +kernel
theorem dX10_mend_82 : decode cX10_mend 82 = .ok (.iadd, 1) := by decide +kernel
theorem dX10_mend_83 : decode cX10_mend 83 = .ok (.iload_n 3, 1) := by decide +kernel
theorem dX10_mend_84 : decode cX10_mend 84 = .ok (.invokevirtual 164, 3) := by decide +kernel
theorem dX10_mend_87 : decode cX10_mend 87 = .ok (.goto 5, 3) := by decide +kernel
theorem dX10_mend_90 : decode cX10_mend 90 = .ok (.ldc 168, 2) := by decide +kernel
theorem dX10_mend_92 : decode cX10_mend 92 = .ok (.ireturn, 1) := by decide +kernel
theorem dX10_mend_93 : decode cX10_mend 93 = .ok (.aload_n 0, 1) := by decide +kernel
theorem dX10_mend_94 : decode cX10_mend 94 = .ok (.iload_n 1, 1) := by decide +kernel
theorem dX10_mend_95 : decode cX10_mend 95 = .ok (.invokevirtual 158, 3) := by decide +kernel
theorem dX10_mend_98 : decode cX10_mend 98 = .ok (.ifCond .eq 23, 3) := by decide +kernel
theorem dX10_mend_101 : decode cX10_mend 101 = .ok (.iload_n 3, 1) := by decide +kernel
theorem dX10_mend_102 : decode cX10_mend 102 = .ok (.i2l, 1) := by decide +kernel
theorem dX10_mend_103 : decode cX10_mend 103 = .ok (.invokestatic 132, 3) := by decide +kernel
theorem dX10_mend_106 : decode cX10_mend 106 = .ok (.ifCond .eq 15, 3) := by decide +kernel
theorem dX10_mend_109 : decode cX10_mend 109 = .ok (.aload_n 0, 1) := by decide +kernel
theorem dX10_mend_110 : decode cX10_mend 110 = .ok (.bipush 60, 2) := by decide +kernel
theorem dX10_mend_112 : decode cX10_mend 112 = .ok (.iload_n 1, 1) := by decide +kernel
theorem dX10_mend_113 : decode cX10_mend 113 = .ok (.iadd, 1) := by decide +kernel
theorem dX10_mend_114 : decode cX10_mend 114 = .ok (.iload_n 3, 1) := by decide +kernel
theorem dX10_mend_115 : decode cX10_mend 115 = .ok (.invokevirtual 164, 3) := by decide +kernel
theorem dX10_mend_118 : decode cX10_mend 118 = .ok (.goto 5, 3) := by decide +kernel
theorem dX10_mend_121 : decode cX10_mend 121 = .ok (.ldc 168, 2) := by decide +kernel
theorem dX10_mend_123 : decode cX10_mend 123 = .ok (.ireturn, 1) := by decide +kernel
theorem dX10_mend_124 : decode cX10_mend 124 = .ok (.ldc 168, 2) := by decide +kernel
theorem dX10_mend_126 : decode cX10_mend 126 = .ok (.ireturn, 1) := by decide +kernel
theorem dX10_pay_0 : decode cX10_pay 0 = .ok (.aload_n 0, 1) := by decide +kernel
theorem dX10_pay_1 : decode cX10_pay 1 = .ok (.iload_n 1, 1) := by decide +kernel
theorem dX10_pay_2 : decode cX10_pay 2 = .ok (.invokevirtual 158, 3) := by decide +kernel
theorem dX10_pay_5 : decode cX10_pay 5 = .ok (.ifCond .eq 15, 3) := by decide +kernel
theorem dX10_pay_8 : decode cX10_pay 8 = .ok (.iload_n 2, 1) := by decide +kernel
theorem dX10_pay_9 : decode cX10_pay 9 = .ok (.i2l, 1) := by decide +kernel
theorem dX10_pay_10 : decode cX10_pay 10 = .ok (.lconst 0, 1) := by decide +kernel
theorem dX10_pay_11 : decode cX10_pay 11 = .ok (.ldc2_w 169, 3) := by decide +kernel
theorem dX10_pay_14 : decode cX10_pay 14 = .ok (.invokestatic 120, 3) := by decide +kernel
theorem dX10_pay_17 : decode cX10_pay 17 = .ok (.ifCond .ne 5, 3) := by decide +kernel
theorem dX10_pay_20 : decode cX10_pay 20 = .ok (.iconst (-1), 1) := by decide +kernel
theorem dX10_pay_21 : decode cX10_pay 21 = .ok (.ireturn, 1) := by decide +kernel
theorem dX10_pay_22 : decode cX10_pay 22 = .ok (.bipush 100, 2) := by decide +kernel
theorem dX10_pay_24 : decode cX10_pay 24 = .ok (.aload_n 0, 1) := by decide +kernel
theorem dX10_pay_25 : decode cX10_pay 25 = .ok (.getfield 25, 3) := by decide +kernel
theorem dX10_pay_28 : decode cX10_pay 28 = .ok (.iload_n 1, 1) := by decide +kernel
theorem dX10_pay_29 : decode cX10_pay 29 = .ok (.iaload, 1) := by decide +kernel
theorem dX10_pay_30 : decode cX10_pay 30 = .ok (.imul, 1) := by decide +kernel
theorem dX10_pay_31 : decode cX10_pay 31 = .ok (.aload_n 0, 1) := by decide +kernel
theorem dX10_pay_32 : decode cX10_pay 32 = .ok (.getfield 28, 3) := by decide +kernel
theorem dX10_pay_35 : decode cX10_pay 35 = .ok (.iload_n 1, 1) := by decide +kernel
theorem dX10_pay_36 : decode cX10_pay 36 = .ok (.iaload, 1) := by decide +kernel
theorem dX10_pay_37 : decode cX10_pay 37 = .ok (.iadd, 1) := by decide +kernel
theorem dX10_pay_38 : decode cX10_pay 38 = .ok (.istore_n 3, 1) := by decide +kernel
theorem dX10_pay_39 : decode cX10_pay 39 = .ok (.aload_n 0, 1) := by decide +kernel
theorem dX10_pay_40 : decode cX10_pay 40 = .ok (.getfield 25, 3) := by decide +kernel
theorem dX10_pay_43 : decode cX10_pay 43 = .ok (.iload_n 1, 1) := by decide +kernel
theorem dX10_pay_44 : decode cX10_pay 44 = .ok (.iload_n 2, 1) := by decide +kernel
theorem dX10_pay_45 : decode cX10_pay 45 = .ok (.bipush 100, 2) := by decide +kernel
theorem dX10_pay_47 : decode cX10_pay 47 = .ok (.idiv, 1) := by decide +kernel
theorem dX10_pay_48 : decode cX10_pay 48 = .ok (.iastore, 1) := by decide +kernel
theorem dX10_pay_49 : decode cX10_pay 49 = .ok (.aload_n 0, 1) := by decide +kernel
theorem dX10_pay_50 : decode cX10_pay 50 = .ok (.getfield 28, 3) := by decide +kernel
theorem dX10_pay_53 : decode cX10_pay 53 = .ok (.iload_n 1, 1) := by decide +kernel
theorem dX10_pay_54 : decode cX10_pay 54 = .ok (.iload_n 2, 1) := by decide +kernel
theorem dX10_pay_55 : decode cX10_pay 55 = .ok (.bipush 100, 2) := by decide +kernel
theorem dX10_pay_57 : decode cX10_pay 57 = .ok (.irem, 1) := by decide +kernel
theorem dX10_pay_58 : decode cX10_pay 58 = .ok (.iastore, 1) := by decide +kernel
theorem dX10_pay_59 : decode cX10_pay 59 = .ok (.iload_n 3, 1) := by decide +kernel
theorem dX10_pay_60 : decode cX10_pay 60 = .ok (.ireturn, 1) := by decide +kernel
theorem dX10_windowsOf_0 : decode cX10_windowsOf 0 = .ok (.iconst 0, 1) := by decide +kernel
theorem dX10_windowsOf_1 : decode cX10_windowsOf 1 = .ok (.istore_n 2, 1) := by decide +kernel
theorem dX10_windowsOf_2 : decode cX10_windowsOf 2 = .ok (.iconst 0, 1) := by decide +kernel
theorem dX10_windowsOf_3 : decode cX10_windowsOf 3 = .ok (.istore_n 3, 1) := by decide +kernel
theorem dX10_windowsOf_4 : decode cX10_windowsOf 4 = .ok (.iload_n 3, 1) := by decide +kernel
theorem dX10_windowsOf_5 : decode cX10_windowsOf 5 = .ok (.aload_n 0, 1) := by decide +kernel
theorem dX10_windowsOf_6 : decode cX10_windowsOf 6 = .ok (.getfield 124, 3) := by decide +kernel
theorem dX10_windowsOf_9 : decode cX10_windowsOf 9 = .ok (.if_icmp .ge 27, 3) := by decide +kernel
theorem dX10_windowsOf_12 : decode cX10_windowsOf 12 = .ok (.iload_n 2, 1) := by decide +kernel
theorem dX10_windowsOf_13 : decode cX10_windowsOf 13 = .ok (.aload_n 0, 1) := by decide +kernel
theorem dX10_windowsOf_14 : decode cX10_windowsOf 14 = .ok (.getfield 31, 3) := by decide +kernel
theorem dX10_windowsOf_17 : decode cX10_windowsOf 17 = .ok (.iload_n 3, 1) := by decide +kernel
theorem dX10_windowsOf_18 : decode cX10_windowsOf 18 = .ok (.iaload, 1) := by decide +kernel
theorem dX10_windowsOf_19 : decode cX10_windowsOf 19 = .ok (.iload_n 1, 1) := by decide +kernel
theorem dX10_windowsOf_20 : decode cX10_windowsOf 20 = .ok (.if_icmp .ne 7, 3) := by decide +kernel
theorem dX10_windowsOf_23 : decode cX10_windowsOf 23 = .ok (.iconst 1, 1) := by decide +kernel
theorem dX10_windowsOf_24 : decode cX10_windowsOf 24 = .ok (.goto 4, 3) := by decide +kernel
theorem dX10_windowsOf_27 : decode cX10_windowsOf 27 = .ok (.iconst 0, 1) := by decide +kernel
theorem dX10_windowsOf_28 : decode cX10_windowsOf 28 = .ok (.iadd, 1) := by decide +kernel
theorem dX10_windowsOf_29 : decode cX10_windowsOf 29 = .ok (.istore_n 2, 1) := by decide +kernel
theorem dX10_windowsOf_30 : decode cX10_windowsOf 30 = .ok (.iinc 3 1, 3) := by decide +kernel
theorem dX10_windowsOf_33 : decode cX10_windowsOf 33 = .ok (.goto (-29), 3) := by decide +kernel
theorem dX10_windowsOf_36 : decode cX10_windowsOf 36 = .ok (.iload_n 2, 1) := by decide +kernel
theorem dX10_windowsOf_37 : decode cX10_windowsOf 37 = .ok (.ireturn, 1) := by decide +kernel
theorem dX10_ofPlayer_0 : decode cX10_ofPlayer 0 = .ok (.iload_n 2, 1) := by decide +kernel
theorem dX10_ofPlayer_1 : decode cX10_ofPlayer 1 = .ok (.ifCond .ne 12, 3) := by decide +kernel
theorem dX10_ofPlayer_4 : decode cX10_ofPlayer 4 = .ok (.aload_n 0, 1) := by decide +kernel
theorem dX10_ofPlayer_5 : decode cX10_ofPlayer 5 = .ok (.getfield 37, 3) := by decide +kernel
theorem dX10_ofPlayer_8 : decode cX10_ofPlayer 8 = .ok (.iload_n 1, 1) := by decide +kernel
theorem dX10_ofPlayer_9 : decode cX10_ofPlayer 9 = .ok (.iaload, 1) := by decide +kernel
theorem dX10_ofPlayer_10 : decode cX10_ofPlayer 10 = .ok (.goto 37, 3) := by decide +kernel
theorem dX10_ofPlayer_13 : decode cX10_ofPlayer 13 = .ok (.iload_n 2, 1) := by decide +kernel
theorem dX10_ofPlayer_14 : decode cX10_ofPlayer 14 = .ok (.iconst 1, 1) := by decide +kernel
theorem dX10_ofPlayer_15 : decode cX10_ofPlayer 15 = .ok (.if_icmp .ne 12, 3) := by decide +kernel
theorem dX10_ofPlayer_18 : decode cX10_ofPlayer 18 = .ok (.aload_n 0, 1) := by decide +kernel
theorem dX10_ofPlayer_19 : decode cX10_ofPlayer 19 = .ok (.getfield 40, 3) := by decide +kernel
theorem dX10_ofPlayer_22 : decode cX10_ofPlayer 22 = .ok (.iload_n 1, 1) := by decide +kernel
theorem dX10_ofPlayer_23 : decode cX10_ofPlayer 23 = .ok (.iaload, 1) := by decide +kernel
theorem dX10_ofPlayer_24 : decode cX10_ofPlayer 24 = .ok (.goto 23, 3) := by decide +kernel
theorem dX10_ofPlayer_27 : decode cX10_ofPlayer 27 = .ok (.iload_n 2, 1) := by decide +kernel
theorem dX10_ofPlayer_28 : decode cX10_ofPlayer 28 = .ok (.iconst 2, 1) := by decide +kernel
theorem dX10_ofPlayer_29 : decode cX10_ofPlayer 29 = .ok (.if_icmp .ne 12, 3) := by decide +kernel
theorem dX10_ofPlayer_32 : decode cX10_ofPlayer 32 = .ok (.aload_n 0, 1) := by decide +kernel
theorem dX10_ofPlayer_33 : decode cX10_ofPlayer 33 = .ok (.getfield 43, 3) := by decide +kernel
theorem dX10_ofPlayer_36 : decode cX10_ofPlayer 36 = .ok (.iload_n 1, 1) := by decide +kernel
theorem dX10_ofPlayer_37 : decode cX10_ofPlayer 37 = .ok (.iaload, 1) := by decide +kernel
theorem dX10_ofPlayer_38 : decode cX10_ofPlayer 38 = .ok (.goto 9, 3) := by decide +kernel
theorem dX10_ofPlayer_41 : decode cX10_ofPlayer 41 = .ok (.aload_n 0, 1) := by decide +kernel
theorem dX10_ofPlayer_42 : decode cX10_ofPlayer 42 = .ok (.getfield 46, 3) := by decide +kernel
theorem dX10_ofPlayer_45 : decode cX10_ofPlayer 45 = .ok (.iload_n 1, 1) := by decide +kernel
theorem dX10_ofPlayer_46 : decode cX10_ofPlayer 46 = .ok (.iaload, 1) := by decide +kernel
theorem dX10_ofPlayer_47 : decode cX10_ofPlayer 47 = .ok (.ireturn, 1) := by decide +kernel
theorem dX10_ofWindow_0 : decode cX10_ofWindow 0 = .ok (.iload_n 2, 1) := by decide +kernel
theorem dX10_ofWindow_1 : decode cX10_ofWindow 1 = .ok (.bipush 10, 2) := by decide +kernel
theorem dX10_ofWindow_3 : decode cX10_ofWindow 3 = .ok (.if_icmp .ne 12, 3) := by decide +kernel
theorem dX10_ofWindow_6 : decode cX10_ofWindow 6 = .ok (.aload_n 0, 1) := by decide +kernel
theorem dX10_ofWindow_7 : decode cX10_ofWindow 7 = .ok (.getfield 31, 3) := by decide +kernel
theorem dX10_ofWindow_10 : decode cX10_ofWindow 10 = .ok (.iload_n 1, 1) := by decide +kernel
theorem dX10_ofWindow_11 : decode cX10_ofWindow 11 = .ok (.iaload, 1) := by decide +kernel
theorem dX10_ofWindow_12 : decode cX10_ofWindow 12 = .ok (.goto 42, 3) := by decide +kernel
theorem dX10_ofWindow_15 : decode cX10_ofWindow 15 = .ok (.iload_n 2, 1) := by decide +kernel
theorem dX10_ofWindow_16 : decode cX10_ofWindow 16 = .ok (.bipush 11, 2) := by decide +kernel
theorem dX10_ofWindow_18 : decode cX10_ofWindow 18 = .ok (.if_icmp .ne 12, 3) := by decide +kernel
theorem dX10_ofWindow_21 : decode cX10_ofWindow 21 = .ok (.aload_n 0, 1) := by decide +kernel
theorem dX10_ofWindow_22 : decode cX10_ofWindow 22 = .ok (.getfield 9, 3) := by decide +kernel
theorem dX10_ofWindow_25 : decode cX10_ofWindow 25 = .ok (.iload_n 1, 1) := by decide +kernel
theorem dX10_ofWindow_26 : decode cX10_ofWindow 26 = .ok (.iaload, 1) := by decide +kernel
theorem dX10_ofWindow_27 : decode cX10_ofWindow 27 = .ok (.goto 27, 3) := by decide +kernel
theorem dX10_ofWindow_30 : decode cX10_ofWindow 30 = .ok (.iload_n 2, 1) := by decide +kernel
theorem dX10_ofWindow_31 : decode cX10_ofWindow 31 = .ok (.bipush 12, 2) := by decide +kernel
theorem dX10_ofWindow_33 : decode cX10_ofWindow 33 = .ok (.if_icmp .ne 15, 3) := by decide +kernel
theorem dX10_ofWindow_36 : decode cX10_ofWindow 36 = .ok (.aload_n 0, 1) := by decide +kernel
theorem dX10_ofWindow_37 : decode cX10_ofWindow 37 = .ok (.getfield 9, 3) := by decide +kernel
theorem dX10_ofWindow_40 : decode cX10_ofWindow 40 = .ok (.bipush 30, 2) := by decide +kernel
theorem dX10_ofWindow_42 : decode cX10_ofWindow 42 = .ok (.iload_n 1, 1) := by decide +kernel
theorem dX10_ofWindow_43 : decode cX10_ofWindow 43 = .ok (.iadd, 1) := by decide +kernel
theorem dX10_ofWindow_44 : decode cX10_ofWindow 44 = .ok (.iaload, 1) := by decide +kernel
theorem dX10_ofWindow_45 : decode cX10_ofWindow 45 = .ok (.goto 9, 3) := by decide +kernel
theorem dX10_ofWindow_48 : decode cX10_ofWindow 48 = .ok (.aload_n 0, 1) := by decide +kernel
theorem dX10_ofWindow_49 : decode cX10_ofWindow 49 = .ok (.getfield 34, 3) := by decide +kernel
theorem dX10_ofWindow_52 : decode cX10_ofWindow 52 = .ok (.iload_n 1, 1) := by decide +kernel
theorem dX10_ofWindow_53 : decode cX10_ofWindow 53 = .ok (.iaload, 1) := by decide +kernel
theorem dX10_ofWindow_54 : decode cX10_ofWindow 54 = .ok (.ireturn, 1) := by decide +kernel
theorem dX10_ofStreet_0 : decode cX10_ofStreet 0 = .ok (.iload_n 2, 1) := by decide +kernel
theorem dX10_ofStreet_1 : decode cX10_ofStreet 1 = .ok (.bipush 20, 2) := by decide +kernel
theorem dX10_ofStreet_3 : decode cX10_ofStreet 3 = .ok (.if_icmp .ne 11, 3) := by decide +kernel
theorem dX10_ofStreet_6 : decode cX10_ofStreet 6 = .ok (.aload_n 0, 1) := by decide +kernel
theorem dX10_ofStreet_7 : decode cX10_ofStreet 7 = .ok (.iload_n 1, 1) := by decide +kernel
theorem dX10_ofStreet_8 : decode cX10_ofStreet 8 = .ok (.invokevirtual 171, 3) := by decide +kernel
theorem dX10_ofStreet_11 : decode cX10_ofStreet 11 = .ok (.goto 48, 3) := by decide +kernel
theorem dX10_ofStreet_14 : decode cX10_ofStreet 14 = .ok (.iload_n 2, 1) := by decide +kernel
theorem dX10_ofStreet_15 : decode cX10_ofStreet 15 = .ok (.bipush 21, 2) := by decide +kernel
theorem dX10_ofStreet_17 : decode cX10_ofStreet 17 = .ok (.if_icmp .ne 12, 3) := by decide +kernel
theorem dX10_ofStreet_20 : decode cX10_ofStreet 20 = .ok (.aload_n 0, 1) := by decide +kernel
theorem dX10_ofStreet_21 : decode cX10_ofStreet 21 = .ok (.getfield 22, 3) := by decide +kernel
theorem dX10_ofStreet_24 : decode cX10_ofStreet 24 = .ok (.iload_n 1, 1) := by decide +kernel
theorem dX10_ofStreet_25 : decode cX10_ofStreet 25 = .ok (.iaload, 1) := by decide +kernel
theorem dX10_ofStreet_26 : decode cX10_ofStreet 26 = .ok (.goto 33, 3) := by decide +kernel
theorem dX10_ofStreet_29 : decode cX10_ofStreet 29 = .ok (.iload_n 2, 1) := by decide +kernel
theorem dX10_ofStreet_30 : decode cX10_ofStreet 30 = .ok (.bipush 22, 2) := by decide +kernel
theorem dX10_ofStreet_32 : decode cX10_ofStreet 32 = .ok (.if_icmp .ne 22, 3) := by decide +kernel
theorem dX10_ofStreet_35 : decode cX10_ofStreet 35 = .ok (.bipush 100, 2) := by decide +kernel
theorem dX10_ofStreet_37 : decode cX10_ofStreet 37 = .ok (.aload_n 0, 1) := by decide +kernel
theorem dX10_ofStreet_38 : decode cX10_ofStreet 38 = .ok (.getfield 25, 3) := by decide +kernel
theorem dX10_ofStreet_41 : decode cX10_ofStreet 41 = .ok (.iload_n 1, 1) := by decide +kernel
theorem dX10_ofStreet_42 : decode cX10_ofStreet 42 = .ok (.iaload, 1) := by decide +kernel
theorem dX10_ofStreet_43 : decode cX10_ofStreet 43 = .ok (.imul, 1) := by decide +kernel
theorem dX10_ofStreet_44 : decode cX10_ofStreet 44 = .ok (.aload_n 0, 1) := by decide +kernel
theorem dX10_ofStreet_45 : decode cX10_ofStreet 45 = .ok (.getfield 28, 3) := by decide +kernel
theorem dX10_ofStreet_48 : decode cX10_ofStreet 48 = .ok (.iload_n 1, 1) := by decide +kernel
theorem dX10_ofStreet_49 : decode cX10_ofStreet 49 = .ok (.iaload, 1) := by decide +kernel
theorem dX10_ofStreet_50 : decode cX10_ofStreet 50 = .ok (.iadd, 1) := by decide +kernel
theorem dX10_ofStreet_51 : decode cX10_ofStreet 51 = .ok (.goto 8, 3) := by decide +kernel
theorem dX10_ofStreet_54 : decode cX10_ofStreet 54 = .ok (.aload_n 0, 1) := by decide +kernel
theorem dX10_ofStreet_55 : decode cX10_ofStreet 55 = .ok (.iload_n 1, 1) := by decide +kernel
theorem dX10_ofStreet_56 : decode cX10_ofStreet 56 = .ok (.invokevirtual 175, 3) := by decide +kernel
theorem dX10_ofStreet_59 : decode cX10_ofStreet 59 = .ok (.ireturn, 1) := by decide +kernel
theorem dX10_of_0 : decode cX10_of 0 = .ok (.iload_n 2, 1) := by decide +kernel
theorem dX10_of_1 : decode cX10_of 1 = .ok (.i2l, 1) := by decide +kernel
theorem dX10_of_2 : decode cX10_of 2 = .ok (.lconst 0, 1) := by decide +kernel
theorem dX10_of_3 : decode cX10_of 3 = .ok (.ldc2_w 178, 3) := by decide +kernel
theorem dX10_of_6 : decode cX10_of 6 = .ok (.invokestatic 120, 3) := by decide +kernel
theorem dX10_of_9 : decode cX10_of 9 = .ok (.ifCond .eq 23, 3) := by decide +kernel
theorem dX10_of_12 : decode cX10_of 12 = .ok (.aload_n 0, 1) := by decide +kernel
theorem dX10_of_13 : decode cX10_of 13 = .ok (.iload_n 1, 1) := by decide +kernel
theorem dX10_of_14 : decode cX10_of 14 = .ok (.invokevirtual 180, 3) := by decide +kernel
theorem dX10_of_17 : decode cX10_of 17 = .ok (.ifCond .eq 12, 3) := by decide +kernel
theorem dX10_of_20 : decode cX10_of 20 = .ok (.aload_n 0, 1) := by decide +kernel
theorem dX10_of_21 : decode cX10_of 21 = .ok (.iload_n 1, 1) := by decide +kernel
theorem dX10_of_22 : decode cX10_of 22 = .ok (.iload_n 2, 1) := by decide +kernel
theorem dX10_of_23 : decode cX10_of 23 = .ok (.invokevirtual 183, 3) := by decide +kernel
theorem dX10_of_26 : decode cX10_of 26 = .ok (.goto 5, 3) := by decide +kernel
theorem dX10_of_29 : decode cX10_of 29 = .ok (.ldc 168, 2) := by decide +kernel
theorem dX10_of_31 : decode cX10_of 31 = .ok (.ireturn, 1) := by decide +kernel
theorem dX10_of_32 : decode cX10_of 32 = .ok (.iload_n 2, 1) := by decide +kernel
theorem dX10_of_33 : decode cX10_of 33 = .ok (.i2l, 1) := by decide +kernel
theorem dX10_of_34 : decode cX10_of 34 = .ok (.ldc2_w 186, 3) := by decide +kernel
theorem dX10_of_37 : decode cX10_of 37 = .ok (.ldc2_w 188, 3) := by decide +kernel
theorem dX10_of_40 : decode cX10_of 40 = .ok (.invokestatic 120, 3) := by decide +kernel
theorem dX10_of_43 : decode cX10_of 43 = .ok (.ifCond .eq 23, 3) := by decide +kernel
theorem dX10_of_46 : decode cX10_of 46 = .ok (.aload_n 0, 1) := by decide +kernel
theorem dX10_of_47 : decode cX10_of 47 = .ok (.iload_n 1, 1) := by decide +kernel
theorem dX10_of_48 : decode cX10_of 48 = .ok (.invokevirtual 161, 3) := by decide +kernel
theorem dX10_of_51 : decode cX10_of 51 = .ok (.ifCond .eq 12, 3) := by decide +kernel
theorem dX10_of_54 : decode cX10_of 54 = .ok (.aload_n 0, 1) := by decide +kernel
theorem dX10_of_55 : decode cX10_of 55 = .ok (.iload_n 1, 1) := by decide +kernel
theorem dX10_of_56 : decode cX10_of 56 = .ok (.iload_n 2, 1) := by decide +kernel
theorem dX10_of_57 : decode cX10_of 57 = .ok (.invokevirtual 190, 3) := by decide +kernel
theorem dX10_of_60 : decode cX10_of 60 = .ok (.goto 5, 3) := by decide +kernel
theorem dX10_of_63 : decode cX10_of 63 = .ok (.ldc 168, 2) := by decide +kernel
theorem dX10_of_65 : decode cX10_of 65 = .ok (.ireturn, 1) := by decide +kernel
theorem dX10_of_66 : decode cX10_of 66 = .ok (.iload_n 2, 1) := by decide +kernel
theorem dX10_of_67 : decode cX10_of 67 = .ok (.i2l, 1) := by decide +kernel
theorem dX10_of_68 : decode cX10_of 68 = .ok (.ldc2_w 193, 3) := by decide +kernel
theorem dX10_of_71 : decode cX10_of 71 = .ok (.ldc2_w 195, 3) := by decide +kernel
theorem dX10_of_74 : decode cX10_of 74 = .ok (.invokestatic 120, 3) := by decide +kernel
theorem dX10_of_77 : decode cX10_of 77 = .ok (.ifCond .eq 20, 3) := by decide +kernel
theorem dX10_of_80 : decode cX10_of 80 = .ok (.aload_n 0, 1) := by decide +kernel
theorem dX10_of_81 : decode cX10_of 81 = .ok (.iload_n 1, 1) := by decide +kernel
theorem dX10_of_82 : decode cX10_of 82 = .ok (.invokevirtual 158, 3) := by decide +kernel
theorem dX10_of_85 : decode cX10_of 85 = .ok (.ifCond .eq 12, 3) := by decide +kernel
theorem dX10_of_88 : decode cX10_of 88 = .ok (.aload_n 0, 1) := by decide +kernel
theorem dX10_of_89 : decode cX10_of 89 = .ok (.iload_n 1, 1) := by decide +kernel
theorem dX10_of_90 : decode cX10_of 90 = .ok (.iload_n 2, 1) := by decide +kernel
theorem dX10_of_91 : decode cX10_of 91 = .ok (.invokevirtual 197, 3) := by decide +kernel
theorem dX10_of_94 : decode cX10_of 94 = .ok (.goto 5, 3) := by decide +kernel
theorem dX10_of_97 : decode cX10_of 97 = .ok (.ldc 168, 2) := by decide +kernel
theorem dX10_of_99 : decode cX10_of 99 = .ok (.ireturn, 1) := by decide +kernel
theorem dX10_harmBy_0 : decode cX10_harmBy 0 = .ok (.aload_n 0, 1) := by decide +kernel
theorem dX10_harmBy_1 : decode cX10_harmBy 1 = .ok (.getfield 9, 3) := by decide +kernel
theorem dX10_harmBy_4 : decode cX10_harmBy 4 = .ok (.iload_n 2, 1) := by decide +kernel
theorem dX10_harmBy_5 : decode cX10_harmBy 5 = .ok (.iaload, 1) := by decide +kernel
theorem dX10_harmBy_6 : decode cX10_harmBy 6 = .ok (.aload_n 0, 1) := by decide +kernel
theorem dX10_harmBy_7 : decode cX10_harmBy 7 = .ok (.getfield 9, 3) := by decide +kernel
theorem dX10_harmBy_10 : decode cX10_harmBy 10 = .ok (.bipush 30, 2) := by decide +kernel
theorem dX10_harmBy_12 : decode cX10_harmBy 12 = .ok (.iload_n 2, 1) := by decide +kernel
theorem dX10_harmBy_13 : decode cX10_harmBy 13 = .ok (.iadd, 1) := by decide +kernel
theorem dX10_harmBy_14 : decode cX10_harmBy 14 = .ok (.iaload, 1) := by decide +kernel
theorem dX10_harmBy_15 : decode cX10_harmBy 15 = .ok (.iload_n 1, 1) := by decide +kernel
theorem dX10_harmBy_16 : decode cX10_harmBy 16 = .ok (.imul, 1) := by decide +kernel
theorem dX10_harmBy_17 : decode cX10_harmBy 17 = .ok (.bipush 10, 2) := by decide +kernel
theorem dX10_harmBy_19 : decode cX10_harmBy 19 = .ok (.idiv, 1) := by decide +kernel
theorem dX10_harmBy_20 : decode cX10_harmBy 20 = .ok (.isub, 1) := by decide +kernel
theorem dX10_harmBy_21 : decode cX10_harmBy 21 = .ok (.ireturn, 1) := by decide +kernel
theorem dX10_harm_0 : decode cX10_harm 0 = .ok (.iload_n 1, 1) := by decide +kernel
theorem dX10_harm_1 : decode cX10_harm 1 = .ok (.ifCond .lt 45, 3) := by decide +kernel
theorem dX10_harm_4 : decode cX10_harm 4 = .ok (.aload_n 0, 1) := by decide +kernel
theorem dX10_harm_5 : decode cX10_harm 5 = .ok (.iload_n 1, 1) := by decide +kernel
theorem dX10_harm_6 : decode cX10_harm 6 = .ok (.bipush 100, 2) := by decide +kernel
theorem dX10_harm_8 : decode cX10_harm 8 = .ok (.idiv, 1) := by decide +kernel
theorem dX10_harm_9 : decode cX10_harm 9 = .ok (.invokevirtual 180, 3) := by decide +kernel
theorem dX10_harm_12 : decode cX10_harm 12 = .ok (.ifCond .eq 34, 3) := by decide +kernel
theorem dX10_harm_15 : decode cX10_harm 15 = .ok (.aload_n 0, 1) := by decide +kernel
theorem dX10_harm_16 : decode cX10_harm 16 = .ok (.iload_n 1, 1) := by decide +kernel
theorem dX10_harm_17 : decode cX10_harm 17 = .ok (.bipush 100, 2) := by decide +kernel
theorem dX10_harm_19 : decode cX10_harm 19 = .ok (.irem, 1) := by decide +kernel
theorem dX10_harm_20 : decode cX10_harm 20 = .ok (.invokevirtual 161, 3) := by decide +kernel
theorem dX10_harm_23 : decode cX10_harm 23 = .ok (.ifCond .eq 23, 3) := by decide +kernel
theorem dX10_harm_26 : decode cX10_harm 26 = .ok (.aload_n 0, 1) := by decide +kernel
theorem dX10_harm_27 : decode cX10_harm 27 = .ok (.aload_n 0, 1) := by decide +kernel
theorem dX10_harm_28 : decode cX10_harm 28 = .ok (.getfield 37, 3) := by decide +kernel
theorem dX10_harm_31 : decode cX10_harm 31 = .ok (.iload_n 1, 1) := by decide +kernel
theorem dX10_harm_32 : decode cX10_harm 32 = .ok (.bipush 100, 2) := by decide +kernel
theorem dX10_harm_34 : decode cX10_harm 34 = .ok (.idiv, 1) := by decide +kernel
theorem dX10_harm_35 : decode cX10_harm 35 = .ok (.iaload, 1) := by decide +kernel
theorem dX10_harm_36 : decode cX10_harm 36 = .ok (.iload_n 1, 1) := by decide +kernel
theorem dX10_harm_37 : decode cX10_harm 37 = .ok (.bipush 100, 2) := by decide +kernel
theorem dX10_harm_39 : decode cX10_harm 39 = .ok (.irem, 1) := by decide +kernel
theorem dX10_harm_40 : decode cX10_harm 40 = .ok (.invokevirtual 200, 3) := by decide +kernel
theorem dX10_harm_43 : decode cX10_harm 43 = .ok (.goto 5, 3) := by decide +kernel
theorem dX10_harm_46 : decode cX10_harm 46 = .ok (.ldc 168, 2) := by decide +kernel
theorem dX10_harm_48 : decode cX10_harm 48 = .ok (.ireturn, 1) := by decide +kernel
theorem dX10_streetHarm_0 : decode cX10_streetHarm 0 = .ok (.iconst 0, 1) := by decide +kernel
theorem dX10_streetHarm_1 : decode cX10_streetHarm 1 = .ok (.istore_n 3, 1) := by decide +kernel
theorem dX10_streetHarm_2 : decode cX10_streetHarm 2 = .ok (.iconst 0, 1) := by decide +kernel
theorem dX10_streetHarm_3 : decode cX10_streetHarm 3 = .ok (.istore 4, 2) := by decide +kernel
theorem dX10_streetHarm_5 : decode cX10_streetHarm 5 = .ok (.iload 4, 2) := by decide +kernel
theorem dX10_streetHarm_7 : decode cX10_streetHarm 7 = .ok (.aload_n 0, 1) := by decide +kernel
theorem dX10_streetHarm_8 : decode cX10_streetHarm 8 = .ok (.getfield 124, 3) := by decide +kernel
theorem dX10_streetHarm_11 : decode cX10_streetHarm 11 = .ok (.if_icmp .ge 34, 3) := by decide +kernel
theorem dX10_streetHarm_14 : decode cX10_streetHarm 14 = .ok (.iload_n 3, 1) := by decide +kernel
theorem dX10_streetHarm_15 : decode cX10_streetHarm 15 = .ok (.aload_n 0, 1) := by decide +kernel
theorem dX10_streetHarm_16 : decode cX10_streetHarm 16 = .ok (.getfield 31, 3) := by decide +kernel
theorem dX10_streetHarm_19 : decode cX10_streetHarm 19 = .ok (.iload 4, 2) := by decide +kernel
theorem dX10_streetHarm_21 : decode cX10_streetHarm 21 = .ok (.iaload, 1) := by decide +kernel
theorem dX10_streetHarm_22 : decode cX10_streetHarm 22 = .ok (.iload_n 2, 1) := by decide +kernel
theorem dX10_streetHarm_23 : decode cX10_streetHarm 23 = .ok (.if_icmp .ne 13, 3) := by decide +kernel
theorem dX10_streetHarm_26 : decode cX10_streetHarm 26 = .ok (.aload_n 0, 1) := by decide +kernel
theorem dX10_streetHarm_27 : decode cX10_streetHarm 27 = .ok (.iload_n 1, 1) := by decide +kernel
theorem dX10_streetHarm_28 : decode cX10_streetHarm 28 = .ok (.iload 4, 2) := by decide +kernel
theorem dX10_streetHarm_30 : decode cX10_streetHarm 30 = .ok (.invokevirtual 200, 3) := by decide +kernel
theorem dX10_streetHarm_33 : decode cX10_streetHarm 33 = .ok (.goto 4, 3) := by decide +kernel
theorem dX10_streetHarm_36 : decode cX10_streetHarm 36 = .ok (.iconst 0, 1) := by decide +kernel
theorem dX10_streetHarm_37 : decode cX10_streetHarm 37 = .ok (.iadd, 1) := by decide +kernel
theorem dX10_streetHarm_38 : decode cX10_streetHarm 38 = .ok (.istore_n 3, 1) := by decide +kernel
theorem dX10_streetHarm_39 : decode cX10_streetHarm 39 = .ok (.iinc 4 1, 3) := by decide +kernel
theorem dX10_streetHarm_42 : decode cX10_streetHarm 42 = .ok (.goto (-37), 3) := by decide +kernel
theorem dX10_streetHarm_45 : decode cX10_streetHarm 45 = .ok (.iload_n 3, 1) := by decide +kernel
theorem dX10_streetHarm_46 : decode cX10_streetHarm 46 = .ok (.ireturn, 1) := by decide +kernel
theorem dX10_leastFor_0 : decode cX10_leastFor 0 = .ok (.aload_n 0, 1) := by decide +kernel
theorem dX10_leastFor_1 : decode cX10_leastFor 1 = .ok (.iload_n 2, 1) := by decide +kernel
theorem dX10_leastFor_2 : decode cX10_leastFor 2 = .ok (.invokevirtual 171, 3) := by decide +kernel
theorem dX10_leastFor_5 : decode cX10_leastFor 5 = .ok (.aload_n 0, 1) := by decide +kernel
theorem dX10_leastFor_6 : decode cX10_leastFor 6 = .ok (.getfield 40, 3) := by decide +kernel
theorem dX10_leastFor_9 : decode cX10_leastFor 9 = .ok (.iload_n 1, 1) := by decide +kernel
theorem dX10_leastFor_10 : decode cX10_leastFor 10 = .ok (.iaload, 1) := by decide +kernel
theorem dX10_leastFor_11 : decode cX10_leastFor 11 = .ok (.isub, 1) := by decide +kernel
theorem dX10_leastFor_12 : decode cX10_leastFor 12 = .ok (.istore_n 3, 1) := by decide +kernel
theorem dX10_leastFor_13 : decode cX10_leastFor 13 = .ok (.iload_n 3, 1) := by decide +kernel
theorem dX10_leastFor_14 : decode cX10_leastFor 14 = .ok (.ifCond .ge 7, 3) := by decide +kernel
theorem dX10_leastFor_17 : decode cX10_leastFor 17 = .ok (.iconst 1, 1) := by decide +kernel
theorem dX10_leastFor_18 : decode cX10_leastFor 18 = .ok (.goto 6, 3) := by decide +kernel
theorem dX10_leastFor_21 : decode cX10_leastFor 21 = .ok (.iload_n 3, 1) := by decide +kernel
theorem dX10_leastFor_22 : decode cX10_leastFor 22 = .ok (.iconst 1, 1) := by decide +kernel
theorem dX10_leastFor_23 : decode cX10_leastFor 23 = .ok (.iadd, 1) := by decide +kernel
theorem dX10_leastFor_24 : decode cX10_leastFor 24 = .ok (.ireturn, 1) := by decide +kernel
theorem dX10_mostBy_0 : decode cX10_mostBy 0 = .ok (.iconst 0, 1) := by decide +kernel
theorem dX10_mostBy_1 : decode cX10_mostBy 1 = .ok (.istore_n 3, 1) := by decide +kernel
theorem dX10_mostBy_2 : decode cX10_mostBy 2 = .ok (.iconst 0, 1) := by decide +kernel
theorem dX10_mostBy_3 : decode cX10_mostBy 3 = .ok (.istore 4, 2) := by decide +kernel
theorem dX10_mostBy_5 : decode cX10_mostBy 5 = .ok (.iload 4, 2) := by decide +kernel
theorem dX10_mostBy_7 : decode cX10_mostBy 7 = .ok (.aload_n 0, 1) := by decide +kernel
theorem dX10_mostBy_8 : decode cX10_mostBy 8 = .ok (.getfield 124, 3) := by decide +kernel
theorem dX10_mostBy_11 : decode cX10_mostBy 11 = .ok (.if_icmp .ge 43, 3) := by decide +kernel
theorem dX10_mostBy_14 : decode cX10_mostBy 14 = .ok (.aload_n 0, 1) := by decide +kernel
theorem dX10_mostBy_15 : decode cX10_mostBy 15 = .ok (.iload_n 1, 1) := by decide +kernel
theorem dX10_mostBy_16 : decode cX10_mostBy 16 = .ok (.iload 4, 2) := by decide +kernel
theorem dX10_mostBy_18 : decode cX10_mostBy 18 = .ok (.invokevirtual 200, 3) := by decide +kernel
theorem dX10_mostBy_21 : decode cX10_mostBy 21 = .ok (.istore 5, 2) := by decide +kernel
theorem dX10_mostBy_23 : decode cX10_mostBy 23 = .ok (.iload_n 3, 1) := by decide +kernel
theorem dX10_mostBy_24 : decode cX10_mostBy 24 = .ok (.aload_n 0, 1) := by decide +kernel
theorem dX10_mostBy_25 : decode cX10_mostBy 25 = .ok (.getfield 31, 3) := by decide +kernel
theorem dX10_mostBy_28 : decode cX10_mostBy 28 = .ok (.iload 4, 2) := by decide +kernel
theorem dX10_mostBy_30 : decode cX10_mostBy 30 = .ok (.iaload, 1) := by decide +kernel
theorem dX10_mostBy_31 : decode cX10_mostBy 31 = .ok (.iload_n 2, 1) := by decide +kernel
theorem dX10_mostBy_32 : decode cX10_mostBy 32 = .ok (.if_icmp .ne 13, 3) := by decide +kernel
theorem dX10_mostBy_35 : decode cX10_mostBy 35 = .ok (.iload 5, 2) := by decide +kernel
theorem dX10_mostBy_37 : decode cX10_mostBy 37 = .ok (.ifCond .le 8, 3) := by decide +kernel
theorem dX10_mostBy_40 : decode cX10_mostBy 40 = .ok (.iload 5, 2) := by decide +kernel
theorem dX10_mostBy_42 : decode cX10_mostBy 42 = .ok (.goto 4, 3) := by decide +kernel
theorem dX10_mostBy_45 : decode cX10_mostBy 45 = .ok (.iconst 0, 1) := by decide +kernel
theorem dX10_mostBy_46 : decode cX10_mostBy 46 = .ok (.iadd, 1) := by decide +kernel
theorem dX10_mostBy_47 : decode cX10_mostBy 47 = .ok (.istore_n 3, 1) := by decide +kernel
theorem dX10_mostBy_48 : decode cX10_mostBy 48 = .ok (.iinc 4 1, 3) := by decide +kernel
theorem dX10_mostBy_51 : decode cX10_mostBy 51 = .ok (.goto (-46), 3) := by decide +kernel
theorem dX10_mostBy_54 : decode cX10_mostBy 54 = .ok (.iload_n 3, 1) := by decide +kernel
theorem dX10_mostBy_55 : decode cX10_mostBy 55 = .ok (.ireturn, 1) := by decide +kernel
theorem dX10_bargainOf_0 : decode cX10_bargainOf 0 = .ok (.aload_n 0, 1) := by decide +kernel
theorem dX10_bargainOf_1 : decode cX10_bargainOf 1 = .ok (.iload_n 1, 1) := by decide +kernel
theorem dX10_bargainOf_2 : decode cX10_bargainOf 2 = .ok (.iload_n 3, 1) := by decide +kernel
theorem dX10_bargainOf_3 : decode cX10_bargainOf 3 = .ok (.invokevirtual 203, 3) := by decide +kernel
theorem dX10_bargainOf_6 : decode cX10_bargainOf 6 = .ok (.istore 4, 2) := by decide +kernel
theorem dX10_bargainOf_8 : decode cX10_bargainOf 8 = .ok (.aload_n 0, 1) := by decide +kernel
theorem dX10_bargainOf_9 : decode cX10_bargainOf 9 = .ok (.iload_n 2, 1) := by decide +kernel
theorem dX10_bargainOf_10 : decode cX10_bargainOf 10 = .ok (.iload_n 3, 1) := by decide +kernel
theorem dX10_bargainOf_11 : decode cX10_bargainOf 11 = .ok (.invokevirtual 206, 3) := by decide +kernel
theorem dX10_bargainOf_14 : decode cX10_bargainOf 14 = .ok (.istore 5, 2) := by decide +kernel
theorem dX10_bargainOf_16 : decode cX10_bargainOf 16 = .ok (.iload 5, 2) := by decide +kernel
theorem dX10_bargainOf_18 : decode cX10_bargainOf 18 = .ok (.iload 4, 2) := by decide +kernel
theorem dX10_bargainOf_20 : decode cX10_bargainOf 20 = .ok (.if_icmp .lt 13, 3) := by decide +kernel
theorem dX10_bargainOf_23 : decode cX10_bargainOf 23 = .ok (.iload 4, 2) := by decide +kernel
theorem dX10_bargainOf_25 : decode cX10_bargainOf 25 = .ok (.iload 5, 2) := by decide +kernel
theorem dX10_bargainOf_27 : decode cX10_bargainOf 27 = .ok (.iadd, 1) := by decide +kernel
theorem dX10_bargainOf_28 : decode cX10_bargainOf 28 = .ok (.iconst 2, 1) := by decide +kernel
theorem dX10_bargainOf_29 : decode cX10_bargainOf 29 = .ok (.idiv, 1) := by decide +kernel
theorem dX10_bargainOf_30 : decode cX10_bargainOf 30 = .ok (.goto 5, 3) := by decide +kernel
theorem dX10_bargainOf_33 : decode cX10_bargainOf 33 = .ok (.bipush (-2), 2) := by decide +kernel
theorem dX10_bargainOf_35 : decode cX10_bargainOf 35 = .ok (.ireturn, 1) := by decide +kernel
theorem dX10_isPs_0 : decode cX10_isPs 0 = .ok (.iload_n 1, 1) := by decide +kernel
theorem dX10_isPs_1 : decode cX10_isPs 1 = .ok (.ifCond .lt 29, 3) := by decide +kernel
theorem dX10_isPs_4 : decode cX10_isPs 4 = .ok (.aload_n 0, 1) := by decide +kernel
theorem dX10_isPs_5 : decode cX10_isPs 5 = .ok (.iload_n 1, 1) := by decide +kernel
theorem dX10_isPs_6 : decode cX10_isPs 6 = .ok (.bipush 10, 2) := by decide +kernel
theorem dX10_isPs_8 : decode cX10_isPs 8 = .ok (.idiv, 1) := by decide +kernel
theorem dX10_isPs_9 : decode cX10_isPs 9 = .ok (.invokevirtual 180, 3) := by decide +kernel
theorem dX10_isPs_12 : decode cX10_isPs 12 = .ok (.ifCond .eq 18, 3) := by decide +kernel
theorem dX10_isPs_15 : decode cX10_isPs 15 = .ok (.aload_n 0, 1) := by decide +kernel
theorem dX10_isPs_16 : decode cX10_isPs 16 = .ok (.iload_n 1, 1) := by decide +kernel
theorem dX10_isPs_17 : decode cX10_isPs 17 = .ok (.bipush 10, 2) := by decide +kernel
theorem dX10_isPs_19 : decode cX10_isPs 19 = .ok (.irem, 1) := by decide +kernel
theorem dX10_isPs_20 : decode cX10_isPs 20 = .ok (.invokevirtual 158, 3) := by decide +kernel
theorem dX10_isPs_23 : decode cX10_isPs 23 = .ok (.ifCond .eq 7, 3) := by decide +kernel
theorem dX10_isPs_26 : decode cX10_isPs 26 = .ok (.iconst 1, 1) := by decide +kernel
theorem dX10_isPs_27 : decode cX10_isPs 27 = .ok (.goto 4, 3) := by decide +kernel
theorem dX10_isPs_30 : decode cX10_isPs 30 = .ok (.iconst 0, 1) := by decide +kernel
theorem dX10_isPs_31 : decode cX10_isPs 31 = .ok (.ireturn, 1) := by decide +kernel
theorem dX10_once_0 : decode cX10_once 0 = .ok (.aload_n 0, 1) := by decide +kernel
theorem dX10_once_1 : decode cX10_once 1 = .ok (.iload_n 1, 1) := by decide +kernel
theorem dX10_once_2 : decode cX10_once 2 = .ok (.invokevirtual 209, 3) := by decide +kernel
theorem dX10_once_5 : decode cX10_once 5 = .ok (.ifCond .ne 6, 3) := by decide +kernel
theorem dX10_once_8 : decode cX10_once 8 = .ok (.ldc 168, 2) := by decide +kernel
theorem dX10_once_10 : decode cX10_once 10 = .ok (.ireturn, 1) := by decide +kernel
theorem dX10_once_11 : decode cX10_once 11 = .ok (.iload_n 1, 1) := by decide +kernel
theorem dX10_once_12 : decode cX10_once 12 = .ok (.bipush 10, 2) := by decide +kernel
theorem dX10_once_14 : decode cX10_once 14 = .ok (.idiv, 1) := by decide +kernel
theorem dX10_once_15 : decode cX10_once 15 = .ok (.istore_n 3, 1) := by decide +kernel
theorem dX10_once_16 : decode cX10_once 16 = .ok (.iload_n 1, 1) := by decide +kernel
theorem dX10_once_17 : decode cX10_once 17 = .ok (.bipush 10, 2) := by decide +kernel
theorem dX10_once_19 : decode cX10_once 19 = .ok (.irem, 1) := by decide +kernel
theorem dX10_once_20 : decode cX10_once 20 = .ok (.istore 4, 2) := by decide +kernel
theorem dX10_once_22 : decode cX10_once 22 = .ok (.iload_n 2, 1) := by decide +kernel
theorem dX10_once_23 : decode cX10_once 23 = .ok (.tableswitch 77 0 3 #[29, 42, 50, 63], 29) := by decide +kernel
theorem dX10_once_52 : decode cX10_once 52 = .ok (.aload_n 0, 1) := by decide +kernel
theorem dX10_once_53 : decode cX10_once 53 = .ok (.aload_n 0, 1) := by decide +kernel
theorem dX10_once_54 : decode cX10_once 54 = .ok (.getfield 37, 3) := by decide +kernel
theorem dX10_once_57 : decode cX10_once 57 = .ok (.iload_n 3, 1) := by decide +kernel
theorem dX10_once_58 : decode cX10_once 58 = .ok (.iaload, 1) := by decide +kernel
theorem dX10_once_59 : decode cX10_once 59 = .ok (.iload 4, 2) := by decide +kernel
theorem dX10_once_61 : decode cX10_once 61 = .ok (.invokevirtual 212, 3) := by decide +kernel
theorem dX10_once_64 : decode cX10_once 64 = .ok (.ireturn, 1) := by decide +kernel
theorem dX10_once_65 : decode cX10_once 65 = .ok (.aload_n 0, 1) := by decide +kernel
theorem dX10_once_66 : decode cX10_once 66 = .ok (.iload_n 3, 1) := by decide +kernel
theorem dX10_once_67 : decode cX10_once 67 = .ok (.iload 4, 2) := by decide +kernel
theorem dX10_once_69 : decode cX10_once 69 = .ok (.invokevirtual 203, 3) := by decide +kernel
theorem dX10_once_72 : decode cX10_once 72 = .ok (.ireturn, 1) := by decide +kernel
theorem dX10_once_73 : decode cX10_once 73 = .ok (.aload_n 0, 1) := by decide +kernel
theorem dX10_once_74 : decode cX10_once 74 = .ok (.aload_n 0, 1) := by decide +kernel
theorem dX10_once_75 : decode cX10_once 75 = .ok (.getfield 37, 3) := by decide +kernel
theorem dX10_once_78 : decode cX10_once 78 = .ok (.iload_n 3, 1) := by decide +kernel
theorem dX10_once_79 : decode cX10_once 79 = .ok (.iaload, 1) := by decide +kernel
theorem dX10_once_80 : decode cX10_once 80 = .ok (.iload 4, 2) := by decide +kernel
theorem dX10_once_82 : decode cX10_once 82 = .ok (.invokevirtual 206, 3) := by decide +kernel
theorem dX10_once_85 : decode cX10_once 85 = .ok (.ireturn, 1) := by decide +kernel
theorem dX10_once_86 : decode cX10_once 86 = .ok (.aload_n 0, 1) := by decide +kernel
theorem dX10_once_87 : decode cX10_once 87 = .ok (.iload_n 3, 1) := by decide +kernel
theorem dX10_once_88 : decode cX10_once 88 = .ok (.aload_n 0, 1) := by decide +kernel
theorem dX10_once_89 : decode cX10_once 89 = .ok (.getfield 37, 3) := by decide +kernel
theorem dX10_once_92 : decode cX10_once 92 = .ok (.iload_n 3, 1) := by decide +kernel
theorem dX10_once_93 : decode cX10_once 93 = .ok (.iaload, 1) := by decide +kernel
theorem dX10_once_94 : decode cX10_once 94 = .ok (.iload 4, 2) := by decide +kernel
theorem dX10_once_96 : decode cX10_once 96 = .ok (.invokevirtual 215, 3) := by decide +kernel
theorem dX10_once_99 : decode cX10_once 99 = .ok (.ireturn, 1) := by decide +kernel
theorem dX10_once_100 : decode cX10_once 100 = .ok (.ldc 168, 2) := by decide +kernel
theorem dX10_once_102 : decode cX10_once 102 = .ok (.ireturn, 1) := by decide +kernel
theorem dX10_isHarmed_0 : decode cX10_isHarmed 0 = .ok (.aload_n 0, 1) := by decide +kernel
theorem dX10_isHarmed_1 : decode cX10_isHarmed 1 = .ok (.getfield 31, 3) := by decide +kernel
theorem dX10_isHarmed_4 : decode cX10_isHarmed 4 = .ok (.iload_n 3, 1) := by decide +kernel
theorem dX10_isHarmed_5 : decode cX10_isHarmed 5 = .ok (.iaload, 1) := by decide +kernel
theorem dX10_isHarmed_6 : decode cX10_isHarmed 6 = .ok (.iload_n 2, 1) := by decide +kernel
theorem dX10_isHarmed_7 : decode cX10_isHarmed 7 = .ok (.if_icmp .ne 21, 3) := by decide +kernel
theorem dX10_isHarmed_10 : decode cX10_isHarmed 10 = .ok (.aload_n 0, 1) := by decide +kernel
theorem dX10_isHarmed_11 : decode cX10_isHarmed 11 = .ok (.aload_n 0, 1) := by decide +kernel
theorem dX10_isHarmed_12 : decode cX10_isHarmed 12 = .ok (.getfield 37, 3) := by decide +kernel
theorem dX10_isHarmed_15 : decode cX10_isHarmed 15 = .ok (.iload_n 1, 1) := by decide +kernel
theorem dX10_isHarmed_16 : decode cX10_isHarmed 16 = .ok (.iaload, 1) := by decide +kernel
theorem dX10_isHarmed_17 : decode cX10_isHarmed 17 = .ok (.iload_n 3, 1) := by decide +kernel
theorem dX10_isHarmed_18 : decode cX10_isHarmed 18 = .ok (.invokevirtual 200, 3) := by decide +kernel
theorem dX10_isHarmed_21 : decode cX10_isHarmed 21 = .ok (.ifCond .le 7, 3) := by decide +kernel
theorem dX10_isHarmed_24 : decode cX10_isHarmed 24 = .ok (.iconst 1, 1) := by decide +kernel
theorem dX10_isHarmed_25 : decode cX10_isHarmed 25 = .ok (.goto 4, 3) := by decide +kernel
theorem dX10_isHarmed_28 : decode cX10_isHarmed 28 = .ok (.iconst 0, 1) := by decide +kernel
theorem dX10_isHarmed_29 : decode cX10_isHarmed 29 = .ok (.ireturn, 1) := by decide +kernel
theorem dX10_harmedMany_0 : decode cX10_harmedMany 0 = .ok (.iconst 0, 1) := by decide +kernel
theorem dX10_harmedMany_1 : decode cX10_harmedMany 1 = .ok (.istore_n 3, 1) := by decide +kernel
theorem dX10_harmedMany_2 : decode cX10_harmedMany 2 = .ok (.iconst 0, 1) := by decide +kernel
theorem dX10_harmedMany_3 : decode cX10_harmedMany 3 = .ok (.istore 4, 2) := by decide +kernel
theorem dX10_harmedMany_5 : decode cX10_harmedMany 5 = .ok (.iload 4, 2) := by decide +kernel
theorem dX10_harmedMany_7 : decode cX10_harmedMany 7 = .ok (.aload_n 0, 1) := by decide +kernel
theorem dX10_harmedMany_8 : decode cX10_harmedMany 8 = .ok (.getfield 124, 3) := by decide +kernel
theorem dX10_harmedMany_11 : decode cX10_harmedMany 11 = .ok (.if_icmp .ge 28, 3) := by decide +kernel
theorem dX10_harmedMany_14 : decode cX10_harmedMany 14 = .ok (.iload_n 3, 1) := by decide +kernel
theorem dX10_harmedMany_15 : decode cX10_harmedMany 15 = .ok (.aload_n 0, 1) := by decide +kernel
theorem dX10_harmedMany_16 : decode cX10_harmedMany 16 = .ok (.iload_n 1, 1) := by decide +kernel
theorem dX10_harmedMany_17 : decode cX10_harmedMany 17 = .ok (.iload_n 2, 1) := by decide +kernel
theorem dX10_harmedMany_18 : decode cX10_harmedMany 18 = .ok (.iload 4, 2) := by decide +kernel
theorem dX10_harmedMany_20 : decode cX10_harmedMany 20 = .ok (.invokevirtual 219, 3) := by decide +kernel
theorem dX10_harmedMany_23 : decode cX10_harmedMany 23 = .ok (.ifCond .eq 7, 3) := by decide +kernel
theorem dX10_harmedMany_26 : decode cX10_harmedMany 26 = .ok (.iconst 1, 1) := by decide +kernel
theorem dX10_harmedMany_27 : decode cX10_harmedMany 27 = .ok (.goto 4, 3) := by decide +kernel
theorem dX10_harmedMany_30 : decode cX10_harmedMany 30 = .ok (.iconst 0, 1) := by decide +kernel
theorem dX10_harmedMany_31 : decode cX10_harmedMany 31 = .ok (.iadd, 1) := by decide +kernel
theorem dX10_harmedMany_32 : decode cX10_harmedMany 32 = .ok (.istore_n 3, 1) := by decide +kernel
theorem dX10_harmedMany_33 : decode cX10_harmedMany 33 = .ok (.iinc 4 1, 3) := by decide +kernel
theorem dX10_harmedMany_36 : decode cX10_harmedMany 36 = .ok (.goto (-31), 3) := by decide +kernel
theorem dX10_harmedMany_39 : decode cX10_harmedMany 39 = .ok (.iload_n 3, 1) := by decide +kernel
theorem dX10_harmedMany_40 : decode cX10_harmedMany 40 = .ok (.ireturn, 1) := by decide +kernel
theorem dX10_haste_0 : decode cX10_haste 0 = .ok (.aload_n 0, 1) := by decide +kernel
theorem dX10_haste_1 : decode cX10_haste 1 = .ok (.aload_n 0, 1) := by decide +kernel
theorem dX10_haste_2 : decode cX10_haste 2 = .ok (.getfield 37, 3) := by decide +kernel
theorem dX10_haste_5 : decode cX10_haste 5 = .ok (.iload_n 1, 1) := by decide +kernel
theorem dX10_haste_6 : decode cX10_haste 6 = .ok (.iaload, 1) := by decide +kernel
theorem dX10_haste_7 : decode cX10_haste 7 = .ok (.iload_n 2, 1) := by decide +kernel
theorem dX10_haste_8 : decode cX10_haste 8 = .ok (.invokevirtual 200, 3) := by decide +kernel
theorem dX10_haste_11 : decode cX10_haste 11 = .ok (.istore 5, 2) := by decide +kernel
theorem dX10_haste_13 : decode cX10_haste 13 = .ok (.sipush 1000, 3) := by decide +kernel
theorem dX10_haste_16 : decode cX10_haste 16 = .ok (.iload 5, 2) := by decide +kernel
theorem dX10_haste_18 : decode cX10_haste 18 = .ok (.imul, 1) := by decide +kernel
theorem dX10_haste_19 : decode cX10_haste 19 = .ok (.iload 5, 2) := by decide +kernel
theorem dX10_haste_21 : decode cX10_haste 21 = .ok (.iload_n 3, 1) := by decide +kernel
theorem dX10_haste_22 : decode cX10_haste 22 = .ok (.iload 4, 2) := by decide +kernel
theorem dX10_haste_24 : decode cX10_haste 24 = .ok (.iconst 1, 1) := by decide +kernel
theorem dX10_haste_25 : decode cX10_haste 25 = .ok (.isub, 1) := by decide +kernel
theorem dX10_haste_26 : decode cX10_haste 26 = .ok (.imul, 1) := by decide +kernel
theorem dX10_haste_27 : decode cX10_haste 27 = .ok (.iadd, 1) := by decide +kernel
theorem dX10_haste_28 : decode cX10_haste 28 = .ok (.idiv, 1) := by decide +kernel
theorem dX10_haste_29 : decode cX10_haste 29 = .ok (.ireturn, 1) := by decide +kernel
theorem dX10_waiting_0 : decode cX10_waiting 0 = .ok (.aload_n 0, 1) := by decide +kernel
theorem dX10_waiting_1 : decode cX10_waiting 1 = .ok (.iload_n 1, 1) := by decide +kernel
theorem dX10_waiting_2 : decode cX10_waiting 2 = .ok (.invokevirtual 209, 3) := by decide +kernel
theorem dX10_waiting_5 : decode cX10_waiting 5 = .ok (.ifCond .eq 41, 3) := by decide +kernel
theorem dX10_waiting_8 : decode cX10_waiting 8 = .ok (.iload_n 2, 1) := by decide +kernel
theorem dX10_waiting_9 : decode cX10_waiting 9 = .ok (.i2l, 1) := by decide +kernel
theorem dX10_waiting_10 : decode cX10_waiting 10 = .ok (.invokestatic 132, 3) := by decide +kernel
theorem dX10_waiting_13 : decode cX10_waiting 13 = .ok (.ifCond .eq 33, 3) := by decide +kernel
theorem dX10_waiting_16 : decode cX10_waiting 16 = .ok (.iload 4, 2) := by decide +kernel
theorem dX10_waiting_18 : decode cX10_waiting 18 = .ok (.ifCond .lt 28, 3) := by decide +kernel
theorem dX10_waiting_21 : decode cX10_waiting 21 = .ok (.iload 4, 2) := by decide +kernel
theorem dX10_waiting_23 : decode cX10_waiting 23 = .ok (.bipush 10, 2) := by decide +kernel
theorem dX10_waiting_25 : decode cX10_waiting 25 = .ok (.idiv, 1) := by decide +kernel
theorem dX10_waiting_26 : decode cX10_waiting 26 = .ok (.i2l, 1) := by decide +kernel
theorem dX10_waiting_27 : decode cX10_waiting 27 = .ok (.lconst 1, 1) := by decide +kernel
theorem dX10_waiting_28 : decode cX10_waiting 28 = .ok (.ldc2_w 223, 3) := by decide +kernel
theorem dX10_waiting_31 : decode cX10_waiting 31 = .ok (.invokestatic 120, 3) := by decide +kernel
theorem dX10_waiting_34 : decode cX10_waiting 34 = .ok (.ifCond .eq 12, 3) := by decide +kernel
theorem dX10_waiting_37 : decode cX10_waiting 37 = .ok (.iload 4, 2) := by decide +kernel
theorem dX10_waiting_39 : decode cX10_waiting 39 = .ok (.bipush 10, 2) := by decide +kernel
theorem dX10_waiting_41 : decode cX10_waiting 41 = .ok (.irem, 1) := by decide +kernel
theorem dX10_waiting_42 : decode cX10_waiting 42 = .ok (.iconst 2, 1) := by decide +kernel
theorem dX10_waiting_43 : decode cX10_waiting 43 = .ok (.if_icmp .le 5, 3) := by decide +kernel
theorem dX10_waiting_46 : decode cX10_waiting 46 = .ok (.iconst (-1), 1) := by decide +kernel
theorem dX10_waiting_47 : decode cX10_waiting 47 = .ok (.ireturn, 1) := by decide +kernel
theorem dX10_waiting_48 : decode cX10_waiting 48 = .ok (.iload_n 1, 1) := by decide +kernel
theorem dX10_waiting_49 : decode cX10_waiting 49 = .ok (.bipush 10, 2) := by decide +kernel
theorem dX10_waiting_51 : decode cX10_waiting 51 = .ok (.idiv, 1) := by decide +kernel
theorem dX10_waiting_52 : decode cX10_waiting 52 = .ok (.istore 5, 2) := by decide +kernel
theorem dX10_waiting_54 : decode cX10_waiting 54 = .ok (.iload_n 1, 1) := by decide +kernel
theorem dX10_waiting_55 : decode cX10_waiting 55 = .ok (.bipush 10, 2) := by decide +kernel
theorem dX10_waiting_57 : decode cX10_waiting 57 = .ok (.irem, 1) := by decide +kernel
theorem dX10_waiting_58 : decode cX10_waiting 58 = .ok (.istore 6, 2) := by decide +kernel
theorem dX10_waiting_60 : decode cX10_waiting 60 = .ok (.aload_n 0, 1) := by decide +kernel
theorem dX10_waiting_61 : decode cX10_waiting 61 = .ok (.iload 5, 2) := by decide +kernel
theorem dX10_waiting_63 : decode cX10_waiting 63 = .ok (.iload 6, 2) := by decide +kernel
theorem dX10_waiting_65 : decode cX10_waiting 65 = .ok (.invokevirtual 225, 3) := by decide +kernel
theorem dX10_waiting_68 : decode cX10_waiting 68 = .ok (.istore 7, 2) := by decide +kernel
theorem dX10_waiting_70 : decode cX10_waiting 70 = .ok (.iload_n 3, 1) := by decide +kernel
theorem dX10_waiting_71 : decode cX10_waiting 71 = .ok (.istore 8, 2) := by decide +kernel
theorem dX10_waiting_73 : decode cX10_waiting 73 = .ok (.bipush (-2), 2) := by decide +kernel
theorem dX10_waiting_75 : decode cX10_waiting 75 = .ok (.istore 9, 2) := by decide +kernel
theorem dX10_waiting_77 : decode cX10_waiting 77 = .ok (.bipush (-2), 2) := by decide +kernel
theorem dX10_waiting_79 : decode cX10_waiting 79 = .ok (.istore 10, 2) := by decide +kernel
theorem dX10_waiting_81 : decode cX10_waiting 81 = .ok (.iconst 0, 1) := by decide +kernel
theorem dX10_waiting_82 : decode cX10_waiting 82 = .ok (.istore 11, 2) := by decide +kernel
theorem dX10_waiting_84 : decode cX10_waiting 84 = .ok (.iload 11, 2) := by decide +kernel
theorem dX10_waiting_86 : decode cX10_waiting 86 = .ok (.iload 4, 2) := by decide +kernel
theorem dX10_waiting_88 : decode cX10_waiting 88 = .ok (.bipush 10, 2) := by decide +kernel
theorem dX10_waiting_90 : decode cX10_waiting 90 = .ok (.idiv, 1) := by decide +kernel
theorem dX10_waiting_91 : decode cX10_waiting 91 = .ok (.if_icmp .ge 119, 3) := by decide +kernel
theorem dX10_waiting_94 : decode cX10_waiting 94 = .ok (.iload 10, 2) := by decide +kernel
theorem dX10_waiting_96 : decode cX10_waiting 96 = .ok (.ifCond .ge 114, 3) := by decide +kernel
theorem dX10_waiting_99 : decode cX10_waiting 99 = .ok (.iconst 0, 1) := by decide +kernel
theorem dX10_waiting_100 : decode cX10_waiting 100 = .ok (.istore 12, 2) := by decide +kernel
theorem dX10_waiting_102 : decode cX10_waiting 102 = .ok (.iload 12, 2) := by decide +kernel
theorem dX10_waiting_104 : decode cX10_waiting 104 = .ok (.aload_n 0, 1) := by decide +kernel
theorem dX10_waiting_105 : decode cX10_waiting 105 = .ok (.getfield 124, 3) := by decide +kernel
theorem dX10_waiting_108 : decode cX10_waiting 108 = .ok (.if_icmp .ge 96, 3) := by decide +kernel
theorem dX10_waiting_111 : decode cX10_waiting 111 = .ok (.iload 10, 2) := by decide +kernel
theorem dX10_waiting_113 : decode cX10_waiting 113 = .ok (.ifCond .ge 91, 3) := by decide +kernel
theorem dX10_waiting_116 : decode cX10_waiting 116 = .ok (.aload_n 0, 1) := by decide +kernel
theorem dX10_waiting_117 : decode cX10_waiting 117 = .ok (.iload 5, 2) := by decide +kernel
theorem dX10_waiting_119 : decode cX10_waiting 119 = .ok (.iload 6, 2) := by decide +kernel
theorem dX10_waiting_121 : decode cX10_waiting 121 = .ok (.iload 12, 2) := by decide +kernel
theorem dX10_waiting_123 : decode cX10_waiting 123 = .ok (.invokevirtual 219, 3) := by decide +kernel
theorem dX10_waiting_126 : decode cX10_waiting 126 = .ok (.ifCond .eq 72, 3) := by decide +kernel
theorem dX10_waiting_129 : decode cX10_waiting 129 = .ok (.iload 8, 2) := by decide +kernel
theorem dX10_waiting_131 : decode cX10_waiting 131 = .ok (.ldc 228, 2) := by decide +kernel
theorem dX10_waiting_133 : decode cX10_waiting 133 = .ok (.imul, 1) := by decide +kernel
theorem dX10_waiting_134 : decode cX10_waiting 134 = .ok (.sipush 12345, 3) := by decide +kernel
theorem dX10_waiting_137 : decode cX10_waiting 137 = .ok (.iadd, 1) := by decide +kernel
theorem dX10_waiting_138 : decode cX10_waiting 138 = .ok (.istore 8, 2) := by decide +kernel
theorem dX10_waiting_140 : decode cX10_waiting 140 = .ok (.iload 8, 2) := by decide +kernel
theorem dX10_waiting_142 : decode cX10_waiting 142 = .ok (.bipush 8, 2) := by decide +kernel
theorem dX10_waiting_144 : decode cX10_waiting 144 = .ok (.iushr, 1) := by decide +kernel
theorem dX10_waiting_145 : decode cX10_waiting 145 = .ok (.sipush 1000, 3) := by decide +kernel
theorem dX10_waiting_148 : decode cX10_waiting 148 = .ok (.irem, 1) := by decide +kernel
theorem dX10_waiting_149 : decode cX10_waiting 149 = .ok (.aload_n 0, 1) := by decide +kernel
theorem dX10_waiting_150 : decode cX10_waiting 150 = .ok (.iload 5, 2) := by decide +kernel
theorem dX10_waiting_152 : decode cX10_waiting 152 = .ok (.iload 12, 2) := by decide +kernel
theorem dX10_waiting_154 : decode cX10_waiting 154 = .ok (.iload_n 2, 1) := by decide +kernel
theorem dX10_waiting_155 : decode cX10_waiting 155 = .ok (.iload 7, 2) := by decide +kernel
theorem dX10_waiting_157 : decode cX10_waiting 157 = .ok (.invokevirtual 229, 3) := by decide +kernel
theorem dX10_waiting_160 : decode cX10_waiting 160 = .ok (.if_icmp .ge 7, 3) := by decide +kernel
theorem dX10_waiting_163 : decode cX10_waiting 163 = .ok (.iconst 1, 1) := by decide +kernel
theorem dX10_waiting_164 : decode cX10_waiting 164 = .ok (.goto 4, 3) := by decide +kernel
theorem dX10_waiting_167 : decode cX10_waiting 167 = .ok (.iconst 0, 1) := by decide +kernel
theorem dX10_waiting_168 : decode cX10_waiting 168 = .ok (.istore 13, 2) := by decide +kernel
theorem dX10_waiting_170 : decode cX10_waiting 170 = .ok (.iload 13, 2) := by decide +kernel
theorem dX10_waiting_172 : decode cX10_waiting 172 = .ok (.ifCond .eq 8, 3) := by decide +kernel
theorem dX10_waiting_175 : decode cX10_waiting 175 = .ok (.iload 12, 2) := by decide +kernel
theorem dX10_waiting_177 : decode cX10_waiting 177 = .ok (.goto 5, 3) := by decide +kernel
theorem dX10_waiting_180 : decode cX10_waiting 180 = .ok (.iload 10, 2) := by decide +kernel
theorem dX10_waiting_182 : decode cX10_waiting 182 = .ok (.istore 10, 2) := by decide +kernel
theorem dX10_waiting_184 : decode cX10_waiting 184 = .ok (.iload 13, 2) := by decide +kernel
theorem dX10_waiting_186 : decode cX10_waiting 186 = .ok (.ifCond .eq 8, 3) := by decide +kernel
theorem dX10_waiting_189 : decode cX10_waiting 189 = .ok (.iload 11, 2) := by decide +kernel
theorem dX10_waiting_191 : decode cX10_waiting 191 = .ok (.goto 5, 3) := by decide +kernel
theorem dX10_waiting_194 : decode cX10_waiting 194 = .ok (.iload 9, 2) := by decide +kernel
theorem dX10_waiting_196 : decode cX10_waiting 196 = .ok (.istore 9, 2) := by decide +kernel
theorem dX10_waiting_198 : decode cX10_waiting 198 = .ok (.iinc 12 1, 3) := by decide +kernel
theorem dX10_waiting_201 : decode cX10_waiting 201 = .ok (.goto (-99), 3) := by decide +kernel
theorem dX10_waiting_204 : decode cX10_waiting 204 = .ok (.iinc 11 1, 3) := by decide +kernel
theorem dX10_waiting_207 : decode cX10_waiting 207 = .ok (.goto (-123), 3) := by decide +kernel
theorem dX10_waiting_210 : decode cX10_waiting 210 = .ok (.iload 4, 2) := by decide +kernel
theorem dX10_waiting_212 : decode cX10_waiting 212 = .ok (.bipush 10, 2) := by decide +kernel
theorem dX10_waiting_214 : decode cX10_waiting 214 = .ok (.irem, 1) := by decide +kernel
theorem dX10_waiting_215 : decode cX10_waiting 215 = .ok (.ifCond .ne 8, 3) := by decide +kernel
theorem dX10_waiting_218 : decode cX10_waiting 218 = .ok (.iload 9, 2) := by decide +kernel
theorem dX10_waiting_220 : decode cX10_waiting 220 = .ok (.goto 46, 3) := by decide +kernel
theorem dX10_waiting_223 : decode cX10_waiting 223 = .ok (.iload 4, 2) := by decide +kernel
theorem dX10_waiting_225 : decode cX10_waiting 225 = .ok (.bipush 10, 2) := by decide +kernel
theorem dX10_waiting_227 : decode cX10_waiting 227 = .ok (.irem, 1) := by decide +kernel
theorem dX10_waiting_228 : decode cX10_waiting 228 = .ok (.iconst 1, 1) := by decide +kernel
theorem dX10_waiting_229 : decode cX10_waiting 229 = .ok (.if_icmp .ne 8, 3) := by decide +kernel
theorem dX10_waiting_232 : decode cX10_waiting 232 = .ok (.iload 10, 2) := by decide +kernel
theorem dX10_waiting_234 : decode cX10_waiting 234 = .ok (.goto 32, 3) := by decide +kernel
theorem dX10_waiting_237 : decode cX10_waiting 237 = .ok (.aload_n 0, 1) := by decide +kernel
theorem dX10_waiting_238 : decode cX10_waiting 238 = .ok (.aload_n 0, 1) := by decide +kernel
theorem dX10_waiting_239 : decode cX10_waiting 239 = .ok (.getfield 37, 3) := by decide +kernel
theorem dX10_waiting_242 : decode cX10_waiting 242 = .ok (.iload 5, 2) := by decide +kernel
theorem dX10_waiting_244 : decode cX10_waiting 244 = .ok (.iaload, 1) := by decide +kernel
theorem dX10_waiting_245 : decode cX10_waiting 245 = .ok (.iload 6, 2) := by decide +kernel
theorem dX10_waiting_247 : decode cX10_waiting 247 = .ok (.invokevirtual 206, 3) := by decide +kernel
theorem dX10_waiting_250 : decode cX10_waiting 250 = .ok (.iload 10, 2) := by decide +kernel
theorem dX10_waiting_252 : decode cX10_waiting 252 = .ok (.ifCond .ge 11, 3) := by decide +kernel
theorem dX10_waiting_255 : decode cX10_waiting 255 = .ok (.iload 4, 2) := by decide +kernel
theorem dX10_waiting_257 : decode cX10_waiting 257 = .ok (.bipush 10, 2) := by decide +kernel
theorem dX10_waiting_259 : decode cX10_waiting 259 = .ok (.idiv, 1) := by decide +kernel
theorem dX10_waiting_260 : decode cX10_waiting 260 = .ok (.goto 5, 3) := by decide +kernel
theorem dX10_waiting_263 : decode cX10_waiting 263 = .ok (.iload 9, 2) := by decide +kernel
theorem dX10_waiting_265 : decode cX10_waiting 265 = .ok (.imul, 1) := by decide +kernel
theorem dX10_waiting_266 : decode cX10_waiting 266 = .ok (.ireturn, 1) := by decide +kernel
theorem dX10_exactly_0 : decode cX10_exactly 0 = .ok (.aload_n 0, 1) := by decide +kernel
theorem dX10_exactly_1 : decode cX10_exactly 1 = .ok (.iload_n 1, 1) := by decide +kernel
theorem dX10_exactly_2 : decode cX10_exactly 2 = .ok (.invokevirtual 209, 3) := by decide +kernel
theorem dX10_exactly_5 : decode cX10_exactly 5 = .ok (.ifCond .eq 23, 3) := by decide +kernel
theorem dX10_exactly_8 : decode cX10_exactly 8 = .ok (.iload_n 2, 1) := by decide +kernel
theorem dX10_exactly_9 : decode cX10_exactly 9 = .ok (.i2l, 1) := by decide +kernel
theorem dX10_exactly_10 : decode cX10_exactly 10 = .ok (.invokestatic 132, 3) := by decide +kernel
theorem dX10_exactly_13 : decode cX10_exactly 13 = .ok (.ifCond .eq 15, 3) := by decide +kernel
theorem dX10_exactly_16 : decode cX10_exactly 16 = .ok (.iload_n 3, 1) := by decide +kernel
theorem dX10_exactly_17 : decode cX10_exactly 17 = .ok (.i2l, 1) := by decide +kernel
theorem dX10_exactly_18 : decode cX10_exactly 18 = .ok (.lconst 0, 1) := by decide +kernel
theorem dX10_exactly_19 : decode cX10_exactly 19 = .ok (.ldc2_w 223, 3) := by decide +kernel
theorem dX10_exactly_22 : decode cX10_exactly 22 = .ok (.invokestatic 120, 3) := by decide +kernel
theorem dX10_exactly_25 : decode cX10_exactly 25 = .ok (.ifCond .ne 5, 3) := by decide +kernel
theorem dX10_exactly_28 : decode cX10_exactly 28 = .ok (.iconst (-1), 1) := by decide +kernel
theorem dX10_exactly_29 : decode cX10_exactly 29 = .ok (.ireturn, 1) := by decide +kernel
theorem dX10_exactly_30 : decode cX10_exactly 30 = .ok (.iload_n 1, 1) := by decide +kernel
theorem dX10_exactly_31 : decode cX10_exactly 31 = .ok (.bipush 10, 2) := by decide +kernel
theorem dX10_exactly_33 : decode cX10_exactly 33 = .ok (.idiv, 1) := by decide +kernel
theorem dX10_exactly_34 : decode cX10_exactly 34 = .ok (.istore 4, 2) := by decide +kernel
theorem dX10_exactly_36 : decode cX10_exactly 36 = .ok (.aload_n 0, 1) := by decide +kernel
theorem dX10_exactly_37 : decode cX10_exactly 37 = .ok (.iload 4, 2) := by decide +kernel
theorem dX10_exactly_39 : decode cX10_exactly 39 = .ok (.iload_n 1, 1) := by decide +kernel
theorem dX10_exactly_40 : decode cX10_exactly 40 = .ok (.bipush 10, 2) := by decide +kernel
theorem dX10_exactly_42 : decode cX10_exactly 42 = .ok (.irem, 1) := by decide +kernel
theorem dX10_exactly_43 : decode cX10_exactly 43 = .ok (.invokevirtual 225, 3) := by decide +kernel
theorem dX10_exactly_46 : decode cX10_exactly 46 = .ok (.istore 5, 2) := by decide +kernel
theorem dX10_exactly_48 : decode cX10_exactly 48 = .ok (.ldc 233, 2) := by decide +kernel
theorem dX10_exactly_50 : decode cX10_exactly 50 = .ok (.istore 6, 2) := by decide +kernel
theorem dX10_exactly_52 : decode cX10_exactly 52 = .ok (.iconst 0, 1) := by decide +kernel
theorem dX10_exactly_53 : decode cX10_exactly 53 = .ok (.istore 7, 2) := by decide +kernel
theorem dX10_exactly_55 : decode cX10_exactly 55 = .ok (.iload 7, 2) := by decide +kernel
theorem dX10_exactly_57 : decode cX10_exactly 57 = .ok (.iload_n 3, 1) := by decide +kernel
theorem dX10_exactly_58 : decode cX10_exactly 58 = .ok (.if_icmp .ge 93, 3) := by decide +kernel
theorem dX10_exactly_61 : decode cX10_exactly 61 = .ok (.iconst 0, 1) := by decide +kernel
theorem dX10_exactly_62 : decode cX10_exactly 62 = .ok (.istore 8, 2) := by decide +kernel
theorem dX10_exactly_64 : decode cX10_exactly 64 = .ok (.iload 8, 2) := by decide +kernel
theorem dX10_exactly_66 : decode cX10_exactly 66 = .ok (.aload_n 0, 1) := by decide +kernel
theorem dX10_exactly_67 : decode cX10_exactly 67 = .ok (.getfield 124, 3) := by decide +kernel
theorem dX10_exactly_70 : decode cX10_exactly 70 = .ok (.if_icmp .ge 75, 3) := by decide +kernel
theorem dX10_exactly_73 : decode cX10_exactly 73 = .ok (.aload_n 0, 1) := by decide +kernel
theorem dX10_exactly_74 : decode cX10_exactly 74 = .ok (.iload 4, 2) := by decide +kernel
theorem dX10_exactly_76 : decode cX10_exactly 76 = .ok (.iload_n 1, 1) := by decide +kernel
theorem dX10_exactly_77 : decode cX10_exactly 77 = .ok (.bipush 10, 2) := by decide +kernel
theorem dX10_exactly_79 : decode cX10_exactly 79 = .ok (.irem, 1) := by decide +kernel
theorem dX10_exactly_80 : decode cX10_exactly 80 = .ok (.iload 8, 2) := by decide +kernel
theorem dX10_exactly_82 : decode cX10_exactly 82 = .ok (.invokevirtual 219, 3) := by decide +kernel
theorem dX10_exactly_85 : decode cX10_exactly 85 = .ok (.ifCond .eq 54, 3) := by decide +kernel
theorem dX10_exactly_88 : decode cX10_exactly 88 = .ok (.iload 6, 2) := by decide +kernel
theorem dX10_exactly_90 : decode cX10_exactly 90 = .ok (.sipush 1000, 3) := by decide +kernel
theorem dX10_exactly_93 : decode cX10_exactly 93 = .ok (.idiv, 1) := by decide +kernel
theorem dX10_exactly_94 : decode cX10_exactly 94 = .ok (.sipush 1000, 3) := by decide +kernel
theorem dX10_exactly_97 : decode cX10_exactly 97 = .ok (.aload_n 0, 1) := by decide +kernel
theorem dX10_exactly_98 : decode cX10_exactly 98 = .ok (.iload 4, 2) := by decide +kernel
theorem dX10_exactly_100 : decode cX10_exactly 100 = .ok (.iload 8, 2) := by decide +kernel
theorem dX10_exactly_102 : decode cX10_exactly 102 = .ok (.iload_n 2, 1) := by decide +kernel
theorem dX10_exactly_103 : decode cX10_exactly 103 = .ok (.iload 5, 2) := by decide +kernel
theorem dX10_exactly_105 : decode cX10_exactly 105 = .ok (.invokevirtual 229, 3) := by decide +kernel
theorem dX10_exactly_108 : decode cX10_exactly 108 = .ok (.isub, 1) := by decide +kernel
theorem dX10_exactly_109 : decode cX10_exactly 109 = .ok (.imul, 1) := by decide +kernel
theorem dX10_exactly_110 : decode cX10_exactly 110 = .ok (.iload 6, 2) := by decide +kernel
theorem dX10_exactly_112 : decode cX10_exactly 112 = .ok (.sipush 1000, 3) := by decide +kernel
theorem dX10_exactly_115 : decode cX10_exactly 115 = .ok (.irem, 1) := by decide +kernel
theorem dX10_exactly_116 : decode cX10_exactly 116 = .ok (.sipush 1000, 3) := by decide +kernel
theorem dX10_exactly_119 : decode cX10_exactly 119 = .ok (.aload_n 0, 1) := by decide +kernel
theorem dX10_exactly_120 : decode cX10_exactly 120 = .ok (.iload 4, 2) := by decide +kernel
theorem dX10_exactly_122 : decode cX10_exactly 122 = .ok (.iload 8, 2) := by decide +kernel
theorem dX10_exactly_124 : decode cX10_exactly 124 = .ok (.iload_n 2, 1) := by decide +kernel
theorem dX10_exactly_125 : decode cX10_exactly 125 = .ok (.iload 5, 2) := by decide +kernel
theorem dX10_exactly_127 : decode cX10_exactly 127 = .ok (.invokevirtual 229, 3) := by decide +kernel
theorem dX10_exactly_130 : decode cX10_exactly 130 = .ok (.isub, 1) := by decide +kernel
theorem dX10_exactly_131 : decode cX10_exactly 131 = .ok (.imul, 1) := by decide +kernel
theorem dX10_exactly_132 : decode cX10_exactly 132 = .ok (.sipush 1000, 3) := by decide +kernel
theorem dX10_exactly_135 : decode cX10_exactly 135 = .ok (.idiv, 1) := by decide +kernel
theorem dX10_exactly_136 : decode cX10_exactly 136 = .ok (.iadd, 1) := by decide +kernel
theorem dX10_exactly_137 : decode cX10_exactly 137 = .ok (.istore 6, 2) := by decide +kernel
theorem dX10_exactly_139 : decode cX10_exactly 139 = .ok (.iinc 8 1, 3) := by decide +kernel
theorem dX10_exactly_142 : decode cX10_exactly 142 = .ok (.goto (-78), 3) := by decide +kernel
theorem dX10_exactly_145 : decode cX10_exactly 145 = .ok (.iinc 7 1, 3) := by decide +kernel
theorem dX10_exactly_148 : decode cX10_exactly 148 = .ok (.goto (-93), 3) := by decide +kernel
theorem dX10_exactly_151 : decode cX10_exactly 151 = .ok (.iload 6, 2) := by decide +kernel
theorem dX10_exactly_153 : decode cX10_exactly 153 = .ok (.sipush 1000, 3) := by decide +kernel
theorem dX10_exactly_156 : decode cX10_exactly 156 = .ok (.idiv, 1) := by decide +kernel
theorem dX10_exactly_157 : decode cX10_exactly 157 = .ok (.ireturn, 1) := by decide +kernel
theorem dX10_feed_0 : decode cX10_feed 0 = .ok (.iload_n 1, 1) := by decide +kernel
theorem dX10_feed_1 : decode cX10_feed 1 = .ok (.i2l, 1) := by decide +kernel
theorem dX10_feed_2 : decode cX10_feed 2 = .ok (.lconst 1, 1) := by decide +kernel
theorem dX10_feed_3 : decode cX10_feed 3 = .ok (.ldc2_w 234, 3) := by decide +kernel
theorem dX10_feed_6 : decode cX10_feed 6 = .ok (.invokestatic 120, 3) := by decide +kernel
theorem dX10_feed_9 : decode cX10_feed 9 = .ok (.ifCond .ne 5, 3) := by decide +kernel
theorem dX10_feed_12 : decode cX10_feed 12 = .ok (.iconst (-1), 1) := by decide +kernel
theorem dX10_feed_13 : decode cX10_feed 13 = .ok (.ireturn, 1) := by decide +kernel
theorem dX10_feed_14 : decode cX10_feed 14 = .ok (.aload_n 0, 1) := by decide +kernel
theorem dX10_feed_15 : decode cX10_feed 15 = .ok (.getfield 236, 3) := by decide +kernel
theorem dX10_feed_18 : decode cX10_feed 18 = .ok (.iload_n 1, 1) := by decide +kernel
theorem dX10_feed_19 : decode cX10_feed 19 = .ok (.iadd, 1) := by decide +kernel
theorem dX10_feed_20 : decode cX10_feed 20 = .ok (.bipush 120, 2) := by decide +kernel
theorem dX10_feed_22 : decode cX10_feed 22 = .ok (.if_icmp .le 6, 3) := by decide +kernel
theorem dX10_feed_25 : decode cX10_feed 25 = .ok (.bipush (-3), 2) := by decide +kernel
theorem dX10_feed_27 : decode cX10_feed 27 = .ok (.ireturn, 1) := by decide +kernel
theorem dX10_feed_28 : decode cX10_feed 28 = .ok (.iconst 0, 1) := by decide +kernel
theorem dX10_feed_29 : decode cX10_feed 29 = .ok (.istore_n 3, 1) := by decide +kernel
theorem dX10_feed_30 : decode cX10_feed 30 = .ok (.iload_n 3, 1) := by decide +kernel
theorem dX10_feed_31 : decode cX10_feed 31 = .ok (.iload_n 1, 1) := by decide +kernel
theorem dX10_feed_32 : decode cX10_feed 32 = .ok (.if_icmp .ge 38, 3) := by decide +kernel
theorem dX10_feed_35 : decode cX10_feed 35 = .ok (.aload_n 0, 1) := by decide +kernel
theorem dX10_feed_36 : decode cX10_feed 36 = .ok (.getfield 49, 3) := by decide +kernel
theorem dX10_feed_39 : decode cX10_feed 39 = .ok (.aload_n 0, 1) := by decide +kernel
theorem dX10_feed_40 : decode cX10_feed 40 = .ok (.getfield 236, 3) := by decide +kernel
theorem dX10_feed_43 : decode cX10_feed 43 = .ok (.iload_n 2, 1) := by decide +kernel
theorem dX10_feed_44 : decode cX10_feed 44 = .ok (.bipush 8, 2) := by decide +kernel
theorem dX10_feed_46 : decode cX10_feed 46 = .ok (.iload_n 3, 1) := by decide +kernel
theorem dX10_feed_47 : decode cX10_feed 47 = .ok (.imul, 1) := by decide +kernel
theorem dX10_feed_48 : decode cX10_feed 48 = .ok (.ishr, 1) := by decide +kernel
theorem dX10_feed_49 : decode cX10_feed 49 = .ok (.sipush 255, 3) := by decide +kernel
theorem dX10_feed_52 : decode cX10_feed 52 = .ok (.iand, 1) := by decide +kernel
theorem dX10_feed_53 : decode cX10_feed 53 = .ok (.iastore, 1) := by decide +kernel
theorem dX10_feed_54 : decode cX10_feed 54 = .ok (.aload_n 0, 1) := by decide +kernel
theorem dX10_feed_55 : decode cX10_feed 55 = .ok (.dup, 1) := by decide +kernel
theorem dX10_feed_56 : decode cX10_feed 56 = .ok (.getfield 236, 3) := by decide +kernel
theorem dX10_feed_59 : decode cX10_feed 59 = .ok (.iconst 1, 1) := by decide +kernel
theorem dX10_feed_60 : decode cX10_feed 60 = .ok (.iadd, 1) := by decide +kernel
theorem dX10_feed_61 : decode cX10_feed 61 = .ok (.putfield 236, 3) := by decide +kernel
theorem dX10_feed_64 : decode cX10_feed 64 = .ok (.iinc 3 1, 3) := by decide +kernel
theorem dX10_feed_67 : decode cX10_feed 67 = .ok (.goto (-37), 3) := by decide +kernel
theorem dX10_feed_70 : decode cX10_feed 70 = .ok (.aload_n 0, 1) := by decide +kernel
theorem dX10_feed_71 : decode cX10_feed 71 = .ok (.getfield 236, 3) := by decide +kernel
theorem dX10_feed_74 : decode cX10_feed 74 = .ok (.ireturn, 1) := by decide +kernel
theorem dX10_byteAt_0 : decode cX10_byteAt 0 = .ok (.aload_n 0, 1) := by decide +kernel
theorem dX10_byteAt_1 : decode cX10_byteAt 1 = .ok (.getfield 239, 3) := by decide +kernel
theorem dX10_byteAt_4 : decode cX10_byteAt 4 = .ok (.aload_n 0, 1) := by decide +kernel
theorem dX10_byteAt_5 : decode cX10_byteAt 5 = .ok (.getfield 242, 3) := by decide +kernel
theorem dX10_byteAt_8 : decode cX10_byteAt 8 = .ok (.if_icmp .ge 39, 3) := by decide +kernel
theorem dX10_byteAt_11 : decode cX10_byteAt 11 = .ok (.aload_n 0, 1) := by decide +kernel
theorem dX10_byteAt_12 : decode cX10_byteAt 12 = .ok (.getfield 245, 3) := by decide +kernel
theorem dX10_byteAt_15 : decode cX10_byteAt 15 = .ok (.ifCond .ge 15, 3) := by decide +kernel
theorem dX10_byteAt_18 : decode cX10_byteAt 18 = .ok (.aload_n 0, 1) := by decide +kernel
theorem dX10_byteAt_19 : decode cX10_byteAt 19 = .ok (.getfield 49, 3) := by decide +kernel
theorem dX10_byteAt_22 : decode cX10_byteAt 22 = .ok (.aload_n 0, 1) := by decide +kernel
theorem dX10_byteAt_23 : decode cX10_byteAt 23 = .ok (.getfield 239, 3) := by decide +kernel
theorem dX10_byteAt_26 : decode cX10_byteAt 26 = .ok (.iaload, 1) := by decide +kernel
theorem dX10_byteAt_27 : decode cX10_byteAt 27 = .ok (.goto 21, 3) := by decide +kernel
theorem dX10_byteAt_30 : decode cX10_byteAt 30 = .ok (.aload_n 0, 1) := by decide +kernel
theorem dX10_byteAt_31 : decode cX10_byteAt 31 = .ok (.getfield 52, 3) := by decide +kernel
theorem dX10_byteAt_34 : decode cX10_byteAt 34 = .ok (.aload_n 0, 1) := by decide +kernel
theorem dX10_byteAt_35 : decode cX10_byteAt 35 = .ok (.getfield 245, 3) := by decide +kernel
theorem dX10_byteAt_38 : decode cX10_byteAt 38 = .ok (.aload_n 0, 1) := by decide +kernel
theorem dX10_byteAt_39 : decode cX10_byteAt 39 = .ok (.getfield 239, 3) := by decide +kernel
theorem dX10_byteAt_42 : decode cX10_byteAt 42 = .ok (.iadd, 1) := by decide +kernel
theorem dX10_byteAt_43 : decode cX10_byteAt 43 = .ok (.iaload, 1) := by decide +kernel
theorem dX10_byteAt_44 : decode cX10_byteAt 44 = .ok (.goto 4, 3) := by decide +kernel
theorem dX10_byteAt_47 : decode cX10_byteAt 47 = .ok (.iconst 0, 1) := by decide +kernel
theorem dX10_byteAt_48 : decode cX10_byteAt 48 = .ok (.ireturn, 1) := by decide +kernel
theorem dX10_wrong_0 : decode cX10_wrong 0 = .ok (.aload_n 0, 1) := by decide +kernel
theorem dX10_wrong_1 : decode cX10_wrong 1 = .ok (.aload_n 0, 1) := by decide +kernel
theorem dX10_wrong_2 : decode cX10_wrong 2 = .ok (.getfield 248, 3) := by decide +kernel
theorem dX10_wrong_5 : decode cX10_wrong 5 = .ok (.ifCond .ge 10, 3) := by decide +kernel
theorem dX10_wrong_8 : decode cX10_wrong 8 = .ok (.aload_n 0, 1) := by decide +kernel
theorem dX10_wrong_9 : decode cX10_wrong 9 = .ok (.getfield 239, 3) := by decide +kernel
theorem dX10_wrong_12 : decode cX10_wrong 12 = .ok (.goto 7, 3) := by decide +kernel
theorem dX10_wrong_15 : decode cX10_wrong 15 = .ok (.aload_n 0, 1) := by decide +kernel
theorem dX10_wrong_16 : decode cX10_wrong 16 = .ok (.getfield 248, 3) := by decide +kernel
theorem dX10_wrong_19 : decode cX10_wrong 19 = .ok (.putfield 248, 3) := by decide +kernel
theorem dX10_wrong_22 : decode cX10_wrong 22 = .ok (.iconst 0, 1) := by decide +kernel
theorem dX10_wrong_23 : decode cX10_wrong 23 = .ok (.ireturn, 1) := by decide +kernel
theorem dX10_takes_0 : decode cX10_takes 0 = .ok (.aload_n 0, 1) := by decide +kernel
theorem dX10_takes_1 : decode cX10_takes 1 = .ok (.getfield 248, 3) := by decide +kernel
theorem dX10_takes_4 : decode cX10_takes 4 = .ok (.ifCond .ge 11, 3) := by decide +kernel
theorem dX10_takes_7 : decode cX10_takes 7 = .ok (.aload_n 0, 1) := by decide +kernel
theorem dX10_takes_8 : decode cX10_takes 8 = .ok (.invokevirtual 251, 3) := by decide +kernel
theorem dX10_takes_11 : decode cX10_takes 11 = .ok (.iload_n 1, 1) := by decide +kernel
theorem dX10_takes_12 : decode cX10_takes 12 = .ok (.if_icmp .eq 5, 3) := by decide +kernel
theorem dX10_takes_15 : decode cX10_takes 15 = .ok (.iconst 0, 1) := by decide +kernel
theorem dX10_takes_16 : decode cX10_takes 16 = .ok (.ireturn, 1) := by decide +kernel
theorem dX10_takes_17 : decode cX10_takes 17 = .ok (.aload_n 0, 1) := by decide +kernel
theorem dX10_takes_18 : decode cX10_takes 18 = .ok (.dup, 1) := by decide +kernel
theorem dX10_takes_19 : decode cX10_takes 19 = .ok (.getfield 239, 3) := by decide +kernel
theorem dX10_takes_22 : decode cX10_takes 22 = .ok (.iconst 1, 1) := by decide +kernel
theorem dX10_takes_23 : decode cX10_takes 23 = .ok (.iadd, 1) := by decide +kernel
theorem dX10_takes_24 : decode cX10_takes 24 = .ok (.putfield 239, 3) := by decide +kernel
theorem dX10_takes_27 : decode cX10_takes 27 = .ok (.iconst 1, 1) := by decide +kernel
theorem dX10_takes_28 : decode cX10_takes 28 = .ok (.ireturn, 1) := by decide +kernel
theorem dX10_either_0 : decode cX10_either 0 = .ok (.aload_n 0, 1) := by decide +kernel
theorem dX10_either_1 : decode cX10_either 1 = .ok (.invokevirtual 255, 3) := by decide +kernel
theorem dX10_either_4 : decode cX10_either 4 = .ok (.istore_n 1, 1) := by decide +kernel
theorem dX10_either_5 : decode cX10_either 5 = .ok (.aload_n 0, 1) := by decide +kernel
theorem dX10_either_6 : decode cX10_either 6 = .ok (.bipush 124, 2) := by decide +kernel
theorem dX10_either_8 : decode cX10_either 8 = .ok (.invokevirtual 258, 3) := by decide +kernel
theorem dX10_either_11 : decode cX10_either 11 = .ok (.ifCond .eq 25, 3) := by decide +kernel
theorem dX10_either_14 : decode cX10_either 14 = .ok (.aload_n 0, 1) := by decide +kernel
theorem dX10_either_15 : decode cX10_either 15 = .ok (.invokevirtual 255, 3) := by decide +kernel
theorem dX10_either_18 : decode cX10_either 18 = .ok (.istore_n 2, 1) := by decide +kernel
theorem dX10_either_19 : decode cX10_either 19 = .ok (.iload_n 1, 1) := by decide +kernel
theorem dX10_either_20 : decode cX10_either 20 = .ok (.ifCond .ne 7, 3) := by decide +kernel
theorem dX10_either_23 : decode cX10_either 23 = .ok (.iload_n 2, 1) := by decide +kernel
theorem dX10_either_24 : decode cX10_either 24 = .ok (.ifCond .eq 7, 3) := by decide +kernel
theorem dX10_either_27 : decode cX10_either 27 = .ok (.iconst 1, 1) := by decide +kernel
theorem dX10_either_28 : decode cX10_either 28 = .ok (.goto 4, 3) := by decide +kernel
theorem dX10_either_31 : decode cX10_either 31 = .ok (.iconst 0, 1) := by decide +kernel
theorem dX10_either_32 : decode cX10_either 32 = .ok (.istore_n 1, 1) := by decide +kernel
theorem dX10_either_33 : decode cX10_either 33 = .ok (.goto (-28), 3) := by decide +kernel
theorem dX10_either_36 : decode cX10_either 36 = .ok (.iload_n 1, 1) := by decide +kernel
theorem dX10_either_37 : decode cX10_either 37 = .ok (.ireturn, 1) := by decide +kernel
theorem dX10_both_0 : decode cX10_both 0 = .ok (.aload_n 0, 1) := by decide +kernel
theorem dX10_both_1 : decode cX10_both 1 = .ok (.invokevirtual 261, 3) := by decide +kernel
theorem dX10_both_4 : decode cX10_both 4 = .ok (.istore_n 1, 1) := by decide +kernel
theorem dX10_both_5 : decode cX10_both 5 = .ok (.aload_n 0, 1) := by decide +kernel
theorem dX10_both_6 : decode cX10_both 6 = .ok (.bipush 38, 2) := by decide +kernel
theorem dX10_both_8 : decode cX10_both 8 = .ok (.invokevirtual 258, 3) := by decide +kernel
theorem dX10_both_11 : decode cX10_both 11 = .ok (.ifCond .eq 25, 3) := by decide +kernel
theorem dX10_both_14 : decode cX10_both 14 = .ok (.aload_n 0, 1) := by decide +kernel
theorem dX10_both_15 : decode cX10_both 15 = .ok (.invokevirtual 261, 3) := by decide +kernel
theorem dX10_both_18 : decode cX10_both 18 = .ok (.istore_n 2, 1) := by decide +kernel
theorem dX10_both_19 : decode cX10_both 19 = .ok (.iload_n 1, 1) := by decide +kernel
theorem dX10_both_20 : decode cX10_both 20 = .ok (.ifCond .eq 11, 3) := by decide +kernel
theorem dX10_both_23 : decode cX10_both 23 = .ok (.iload_n 2, 1) := by decide +kernel
theorem dX10_both_24 : decode cX10_both 24 = .ok (.ifCond .eq 7, 3) := by decide +kernel
theorem dX10_both_27 : decode cX10_both 27 = .ok (.iconst 1, 1) := by decide +kernel
theorem dX10_both_28 : decode cX10_both 28 = .ok (.goto 4, 3) := by decide +kernel
theorem dX10_both_31 : decode cX10_both 31 = .ok (.iconst 0, 1) := by decide +kernel
theorem dX10_both_32 : decode cX10_both 32 = .ok (.istore_n 1, 1) := by decide +kernel
theorem dX10_both_33 : decode cX10_both 33 = .ok (.goto (-28), 3) := by decide +kernel
theorem dX10_both_36 : decode cX10_both 36 = .ok (.iload_n 1, 1) := by decide +kernel
theorem dX10_both_37 : decode cX10_both 37 = .ok (.ireturn, 1) := by decide +kernel
theorem dX10_compared_0 : decode cX10_compared 0 = .ok (.aload_n 0, 1) := by decide +kernel
theorem dX10_compared_1 : decode cX10_compared 1 = .ok (.invokevirtual 264, 3) := by decide +kernel
theorem dX10_compared_4 : decode cX10_compared 4 = .ok (.istore_n 1, 1) := by decide +kernel
theorem dX10_compared_5 : decode cX10_compared 5 = .ok (.aload_n 0, 1) := by decide +kernel
theorem dX10_compared_6 : decode cX10_compared 6 = .ok (.invokevirtual 251, 3) := by decide +kernel
theorem dX10_compared_9 : decode cX10_compared 9 = .ok (.istore_n 2, 1) := by decide +kernel
theorem dX10_compared_10 : decode cX10_compared 10 = .ok (.aload_n 0, 1) := by decide +kernel
theorem dX10_compared_11 : decode cX10_compared 11 = .ok (.getfield 248, 3) := by decide +kernel
theorem dX10_compared_14 : decode cX10_compared 14 = .ok (.ifCond .ge 21, 3) := by decide +kernel
theorem dX10_compared_17 : decode cX10_compared 17 = .ok (.iload_n 2, 1) := by decide +kernel
theorem dX10_compared_18 : decode cX10_compared 18 = .ok (.bipush 60, 2) := by decide +kernel
theorem dX10_compared_20 : decode cX10_compared 20 = .ok (.if_icmp .eq 17, 3) := by decide +kernel
theorem dX10_compared_23 : decode cX10_compared 23 = .ok (.iload_n 2, 1) := by decide +kernel
theorem dX10_compared_24 : decode cX10_compared 24 = .ok (.bipush 61, 2) := by decide +kernel
theorem dX10_compared_26 : decode cX10_compared 26 = .ok (.if_icmp .eq 11, 3) := by decide +kernel
theorem dX10_compared_29 : decode cX10_compared 29 = .ok (.iload_n 2, 1) := by decide +kernel
theorem dX10_compared_30 : decode cX10_compared 30 = .ok (.bipush 62, 2) := by decide +kernel
theorem dX10_compared_32 : decode cX10_compared 32 = .ok (.if_icmp .eq 5, 3) := by decide +kernel
theorem dX10_compared_35 : decode cX10_compared 35 = .ok (.iload_n 1, 1) := by decide +kernel
theorem dX10_compared_36 : decode cX10_compared 36 = .ok (.ireturn, 1) := by decide +kernel
theorem dX10_compared_37 : decode cX10_compared 37 = .ok (.aload_n 0, 1) := by decide +kernel
theorem dX10_compared_38 : decode cX10_compared 38 = .ok (.dup, 1) := by decide +kernel
theorem dX10_compared_39 : decode cX10_compared 39 = .ok (.getfield 239, 3) := by decide +kernel
theorem dX10_compared_42 : decode cX10_compared 42 = .ok (.iconst 1, 1) := by decide +kernel
theorem dX10_compared_43 : decode cX10_compared 43 = .ok (.iadd, 1) := by decide +kernel
theorem dX10_compared_44 : decode cX10_compared 44 = .ok (.putfield 239, 3) := by decide +kernel
theorem dX10_compared_47 : decode cX10_compared 47 = .ok (.aload_n 0, 1) := by decide +kernel
theorem dX10_compared_48 : decode cX10_compared 48 = .ok (.invokevirtual 264, 3) := by decide +kernel
theorem dX10_compared_51 : decode cX10_compared 51 = .ok (.istore_n 3, 1) := by decide +kernel
theorem dX10_compared_52 : decode cX10_compared 52 = .ok (.iload_n 2, 1) := by decide +kernel
theorem dX10_compared_53 : decode cX10_compared 53 = .ok (.bipush 60, 2) := by decide +kernel
theorem dX10_compared_55 : decode cX10_compared 55 = .ok (.if_icmp .ne 11, 3) := by decide +kernel
theorem dX10_compared_58 : decode cX10_compared 58 = .ok (.iload_n 1, 1) := by decide +kernel
theorem dX10_compared_59 : decode cX10_compared 59 = .ok (.iload_n 3, 1) := by decide +kernel
theorem dX10_compared_60 : decode cX10_compared 60 = .ok (.if_icmp .ge 29, 3) := by decide +kernel
theorem dX10_compared_63 : decode cX10_compared 63 = .ok (.goto 22, 3) := by decide +kernel
theorem dX10_compared_66 : decode cX10_compared 66 = .ok (.iload_n 2, 1) := by decide +kernel
theorem dX10_compared_67 : decode cX10_compared 67 = .ok (.bipush 61, 2) := by decide +kernel
theorem dX10_compared_69 : decode cX10_compared 69 = .ok (.if_icmp .ne 11, 3) := by decide +kernel
theorem dX10_compared_72 : decode cX10_compared 72 = .ok (.iload_n 1, 1) := by decide +kernel
theorem dX10_compared_73 : decode cX10_compared 73 = .ok (.iload_n 3, 1) := by decide +kernel
theorem dX10_compared_74 : decode cX10_compared 74 = .ok (.if_icmp .ne 15, 3) := by decide +kernel
theorem dX10_compared_77 : decode cX10_compared 77 = .ok (.goto 8, 3) := by decide +kernel
theorem dX10_compared_80 : decode cX10_compared 80 = .ok (.iload_n 1, 1) := by decide +kernel
theorem dX10_compared_81 : decode cX10_compared 81 = .ok (.iload_n 3, 1) := by decide +kernel
theorem dX10_compared_82 : decode cX10_compared 82 = .ok (.if_icmp .le 7, 3) := by decide +kernel
theorem dX10_compared_85 : decode cX10_compared 85 = .ok (.iconst 1, 1) := by decide +kernel
theorem dX10_compared_86 : decode cX10_compared 86 = .ok (.goto 4, 3) := by decide +kernel
theorem dX10_compared_89 : decode cX10_compared 89 = .ok (.iconst 0, 1) := by decide +kernel
theorem dX10_compared_90 : decode cX10_compared 90 = .ok (.ireturn, 1) := by decide +kernel
theorem dX10_sums_0 : decode cX10_sums 0 = .ok (.aload_n 0, 1) := by decide +kernel
theorem dX10_sums_1 : decode cX10_sums 1 = .ok (.invokevirtual 267, 3) := by decide +kernel
theorem dX10_sums_4 : decode cX10_sums 4 = .ok (.istore_n 1, 1) := by decide +kernel
theorem dX10_sums_5 : decode cX10_sums 5 = .ok (.aload_n 0, 1) := by decide +kernel
theorem dX10_sums_6 : decode cX10_sums 6 = .ok (.getfield 248, 3) := by decide +kernel
theorem dX10_sums_9 : decode cX10_sums 9 = .ok (.ifCond .ge 68, 3) := by decide +kernel
theorem dX10_sums_12 : decode cX10_sums 12 = .ok (.aload_n 0, 1) := by decide +kernel
theorem dX10_sums_13 : decode cX10_sums 13 = .ok (.invokevirtual 251, 3) := by decide +kernel
theorem dX10_sums_16 : decode cX10_sums 16 = .ok (.bipush 43, 2) := by decide +kernel
theorem dX10_sums_18 : decode cX10_sums 18 = .ok (.if_icmp .eq 12, 3) := by decide +kernel
theorem dX10_sums_21 : decode cX10_sums 21 = .ok (.aload_n 0, 1) := by decide +kernel
theorem dX10_sums_22 : decode cX10_sums 22 = .ok (.invokevirtual 251, 3) := by decide +kernel
theorem dX10_sums_25 : decode cX10_sums 25 = .ok (.bipush 45, 2) := by decide +kernel
theorem dX10_sums_27 : decode cX10_sums 27 = .ok (.if_icmp .ne 50, 3) := by decide +kernel
theorem dX10_sums_30 : decode cX10_sums 30 = .ok (.aload_n 0, 1) := by decide +kernel
theorem dX10_sums_31 : decode cX10_sums 31 = .ok (.invokevirtual 251, 3) := by decide +kernel
theorem dX10_sums_34 : decode cX10_sums 34 = .ok (.bipush 43, 2) := by decide +kernel
theorem dX10_sums_36 : decode cX10_sums 36 = .ok (.if_icmp .ne 7, 3) := by decide +kernel
theorem dX10_sums_39 : decode cX10_sums 39 = .ok (.iconst 1, 1) := by decide +kernel
theorem dX10_sums_40 : decode cX10_sums 40 = .ok (.goto 4, 3) := by decide +kernel
theorem dX10_sums_43 : decode cX10_sums 43 = .ok (.iconst 0, 1) := by decide +kernel
theorem dX10_sums_44 : decode cX10_sums 44 = .ok (.istore_n 2, 1) := by decide +kernel
theorem dX10_sums_45 : decode cX10_sums 45 = .ok (.aload_n 0, 1) := by decide +kernel
theorem dX10_sums_46 : decode cX10_sums 46 = .ok (.dup, 1) := by decide +kernel
theorem dX10_sums_47 : decode cX10_sums 47 = .ok (.getfield 239, 3) := by decide +kernel
theorem dX10_sums_50 : decode cX10_sums 50 = .ok (.iconst 1, 1) := by decide +kernel
theorem dX10_sums_51 : decode cX10_sums 51 = .ok (.iadd, 1) := by decide +kernel
theorem dX10_sums_52 : decode cX10_sums 52 = .ok (.putfield 239, 3) := by decide +kernel
theorem dX10_sums_55 : decode cX10_sums 55 = .ok (.aload_n 0, 1) := by decide +kernel
theorem dX10_sums_56 : decode cX10_sums 56 = .ok (.invokevirtual 267, 3) := by decide +kernel
theorem dX10_sums_59 : decode cX10_sums 59 = .ok (.istore_n 3, 1) := by decide +kernel
theorem dX10_sums_60 : decode cX10_sums 60 = .ok (.iload_n 2, 1) := by decide +kernel
theorem dX10_sums_61 : decode cX10_sums 61 = .ok (.ifCond .eq 9, 3) := by decide +kernel
theorem dX10_sums_64 : decode cX10_sums 64 = .ok (.iload_n 1, 1) := by decide +kernel
theorem dX10_sums_65 : decode cX10_sums 65 = .ok (.iload_n 3, 1) := by decide +kernel
theorem dX10_sums_66 : decode cX10_sums 66 = .ok (.iadd, 1) := by decide +kernel
theorem dX10_sums_67 : decode cX10_sums 67 = .ok (.goto 6, 3) := by decide +kernel
theorem dX10_sums_70 : decode cX10_sums 70 = .ok (.iload_n 1, 1) := by decide +kernel
theorem dX10_sums_71 : decode cX10_sums 71 = .ok (.iload_n 3, 1) := by decide +kernel
theorem dX10_sums_72 : decode cX10_sums 72 = .ok (.isub, 1) := by decide +kernel
theorem dX10_sums_73 : decode cX10_sums 73 = .ok (.istore_n 1, 1) := by decide +kernel
theorem dX10_sums_74 : decode cX10_sums 74 = .ok (.goto (-69), 3) := by decide +kernel
theorem dX10_sums_77 : decode cX10_sums 77 = .ok (.iload_n 1, 1) := by decide +kernel
theorem dX10_sums_78 : decode cX10_sums 78 = .ok (.ireturn, 1) := by decide +kernel
theorem dX10_product_0 : decode cX10_product 0 = .ok (.aload_n 0, 1) := by decide +kernel
theorem dX10_product_1 : decode cX10_product 1 = .ok (.invokevirtual 270, 3) := by decide +kernel
theorem dX10_product_4 : decode cX10_product 4 = .ok (.istore_n 1, 1) := by decide +kernel
theorem dX10_product_5 : decode cX10_product 5 = .ok (.aload_n 0, 1) := by decide +kernel
theorem dX10_product_6 : decode cX10_product 6 = .ok (.invokevirtual 251, 3) := by decide +kernel
theorem dX10_product_9 : decode cX10_product 9 = .ok (.istore_n 2, 1) := by decide +kernel
theorem dX10_product_10 : decode cX10_product 10 = .ok (.aload_n 0, 1) := by decide +kernel
theorem dX10_product_11 : decode cX10_product 11 = .ok (.getfield 248, 3) := by decide +kernel
theorem dX10_product_14 : decode cX10_product 14 = .ok (.ifCond .ge 80, 3) := by decide +kernel
theorem dX10_product_17 : decode cX10_product 17 = .ok (.iload_n 2, 1) := by decide +kernel
theorem dX10_product_18 : decode cX10_product 18 = .ok (.bipush 42, 2) := by decide +kernel
theorem dX10_product_20 : decode cX10_product 20 = .ok (.if_icmp .eq 15, 3) := by decide +kernel
theorem dX10_product_23 : decode cX10_product 23 = .ok (.iload_n 2, 1) := by decide +kernel
theorem dX10_product_24 : decode cX10_product 24 = .ok (.bipush 47, 2) := by decide +kernel
theorem dX10_product_26 : decode cX10_product 26 = .ok (.if_icmp .eq 9, 3) := by decide +kernel
theorem dX10_product_29 : decode cX10_product 29 = .ok (.iload_n 2, 1) := by decide +kernel
theorem dX10_product_30 : decode cX10_product 30 = .ok (.bipush 37, 2) := by decide +kernel
theorem dX10_product_32 : decode cX10_product 32 = .ok (.if_icmp .ne 62, 3) := by decide +kernel
theorem dX10_product_35 : decode cX10_product 35 = .ok (.aload_n 0, 1) := by decide +kernel
theorem dX10_product_36 : decode cX10_product 36 = .ok (.dup, 1) := by decide +kernel
theorem dX10_product_37 : decode cX10_product 37 = .ok (.getfield 239, 3) := by decide +kernel
theorem dX10_product_40 : decode cX10_product 40 = .ok (.iconst 1, 1) := by decide +kernel
theorem dX10_product_41 : decode cX10_product 41 = .ok (.iadd, 1) := by decide +kernel
theorem dX10_product_42 : decode cX10_product 42 = .ok (.putfield 239, 3) := by decide +kernel
theorem dX10_product_45 : decode cX10_product 45 = .ok (.aload_n 0, 1) := by decide +kernel
theorem dX10_product_46 : decode cX10_product 46 = .ok (.invokevirtual 270, 3) := by decide +kernel
theorem dX10_product_49 : decode cX10_product 49 = .ok (.istore_n 3, 1) := by decide +kernel
theorem dX10_product_50 : decode cX10_product 50 = .ok (.iload_n 2, 1) := by decide +kernel
theorem dX10_product_51 : decode cX10_product 51 = .ok (.bipush 42, 2) := by decide +kernel
theorem dX10_product_53 : decode cX10_product 53 = .ok (.if_icmp .ne 9, 3) := by decide +kernel
theorem dX10_product_56 : decode cX10_product 56 = .ok (.iload_n 1, 1) := by decide +kernel
theorem dX10_product_57 : decode cX10_product 57 = .ok (.iload_n 3, 1) := by decide +kernel
theorem dX10_product_58 : decode cX10_product 58 = .ok (.imul, 1) := by decide +kernel
theorem dX10_product_59 : decode cX10_product 59 = .ok (.goto 26, 3) := by decide +kernel
theorem dX10_product_62 : decode cX10_product 62 = .ok (.iload_n 3, 1) := by decide +kernel
theorem dX10_product_63 : decode cX10_product 63 = .ok (.ifCond .ne 7, 3) := by decide +kernel
theorem dX10_product_66 : decode cX10_product 66 = .ok (.iconst 0, 1) := by decide +kernel
theorem dX10_product_67 : decode cX10_product 67 = .ok (.goto 18, 3) := by decide +kernel
theorem dX10_product_70 : decode cX10_product 70 = .ok (.iload_n 2, 1) := by decide +kernel
theorem dX10_product_71 : decode cX10_product 71 = .ok (.bipush 47, 2) := by decide +kernel
theorem dX10_product_73 : decode cX10_product 73 = .ok (.if_icmp .ne 9, 3) := by decide +kernel
theorem dX10_product_76 : decode cX10_product 76 = .ok (.iload_n 1, 1) := by decide +kernel
theorem dX10_product_77 : decode cX10_product 77 = .ok (.iload_n 3, 1) := by decide +kernel
theorem dX10_product_78 : decode cX10_product 78 = .ok (.idiv, 1) := by decide +kernel
theorem dX10_product_79 : decode cX10_product 79 = .ok (.goto 6, 3) := by decide +kernel
theorem dX10_product_82 : decode cX10_product 82 = .ok (.iload_n 1, 1) := by decide +kernel
theorem dX10_product_83 : decode cX10_product 83 = .ok (.iload_n 3, 1) := by decide +kernel
theorem dX10_product_84 : decode cX10_product 84 = .ok (.irem, 1) := by decide +kernel
theorem dX10_product_85 : decode cX10_product 85 = .ok (.istore_n 1, 1) := by decide +kernel
theorem dX10_product_86 : decode cX10_product 86 = .ok (.aload_n 0, 1) := by decide +kernel
theorem dX10_product_87 : decode cX10_product 87 = .ok (.invokevirtual 251, 3) := by decide +kernel
theorem dX10_product_90 : decode cX10_product 90 = .ok (.istore_n 2, 1) := by decide +kernel
theorem dX10_product_91 : decode cX10_product 91 = .ok (.goto (-81), 3) := by decide +kernel
theorem dX10_product_94 : decode cX10_product 94 = .ok (.iload_n 1, 1) := by decide +kernel
theorem dX10_product_95 : decode cX10_product 95 = .ok (.ireturn, 1) := by decide +kernel
theorem dX10_nameOf_0 : decode cX10_nameOf 0 = .ok (.iload_n 0, 1) := by decide +kernel
theorem dX10_nameOf_1 : decode cX10_nameOf 1 = .ok (.tableswitch 105 99 116 #[89, 105, 105, 105, 97, 93, 105, 105, 99, 105, 105, 95, 105, 91, 105, 105, 102, 87], 87) := by decide +kernel
theorem dX10_nameOf_88 : decode cX10_nameOf 88 = .ok (.iconst 0, 1) := by decide +kernel
theorem dX10_nameOf_89 : decode cX10_nameOf 89 = .ok (.ireturn, 1) := by decide +kernel
theorem dX10_nameOf_90 : decode cX10_nameOf 90 = .ok (.iconst 1, 1) := by decide +kernel
theorem dX10_nameOf_91 : decode cX10_nameOf 91 = .ok (.ireturn, 1) := by decide +kernel
theorem dX10_nameOf_92 : decode cX10_nameOf 92 = .ok (.iconst 2, 1) := by decide +kernel
theorem dX10_nameOf_93 : decode cX10_nameOf 93 = .ok (.ireturn, 1) := by decide +kernel
theorem dX10_nameOf_94 : decode cX10_nameOf 94 = .ok (.iconst 3, 1) := by decide +kernel
theorem dX10_nameOf_95 : decode cX10_nameOf 95 = .ok (.ireturn, 1) := by decide +kernel
theorem dX10_nameOf_96 : decode cX10_nameOf 96 = .ok (.iconst 4, 1) := by decide +kernel
theorem dX10_nameOf_97 : decode cX10_nameOf 97 = .ok (.ireturn, 1) := by decide +kernel
theorem dX10_nameOf_98 : decode cX10_nameOf 98 = .ok (.iconst 5, 1) := by decide +kernel
theorem dX10_nameOf_99 : decode cX10_nameOf 99 = .ok (.ireturn, 1) := by decide +kernel
theorem dX10_nameOf_100 : decode cX10_nameOf 100 = .ok (.bipush 6, 2) := by decide +kernel
theorem dX10_nameOf_102 : decode cX10_nameOf 102 = .ok (.ireturn, 1) := by decide +kernel
theorem dX10_nameOf_103 : decode cX10_nameOf 103 = .ok (.bipush 7, 2) := by decide +kernel
theorem dX10_nameOf_105 : decode cX10_nameOf 105 = .ok (.ireturn, 1) := by decide +kernel
theorem dX10_nameOf_106 : decode cX10_nameOf 106 = .ok (.iconst (-1), 1) := by decide +kernel
theorem dX10_nameOf_107 : decode cX10_nameOf 107 = .ok (.ireturn, 1) := by decide +kernel
theorem dX10_one_0 : decode cX10_one 0 = .ok (.aload_n 0, 1) := by decide +kernel
theorem dX10_one_1 : decode cX10_one 1 = .ok (.getfield 248, 3) := by decide +kernel
theorem dX10_one_4 : decode cX10_one 4 = .ok (.ifCond .lt 5, 3) := by decide +kernel
theorem dX10_one_7 : decode cX10_one 7 = .ok (.iconst 0, 1) := by decide +kernel
theorem dX10_one_8 : decode cX10_one 8 = .ok (.ireturn, 1) := by decide +kernel
theorem dX10_one_9 : decode cX10_one 9 = .ok (.aload_n 0, 1) := by decide +kernel
theorem dX10_one_10 : decode cX10_one 10 = .ok (.invokevirtual 251, 3) := by decide +kernel
theorem dX10_one_13 : decode cX10_one 13 = .ok (.istore_n 1, 1) := by decide +kernel
theorem dX10_one_14 : decode cX10_one 14 = .ok (.iload_n 1, 1) := by decide +kernel
theorem dX10_one_15 : decode cX10_one 15 = .ok (.bipush 33, 2) := by decide +kernel
theorem dX10_one_17 : decode cX10_one 17 = .ok (.if_icmp .eq 15, 3) := by decide +kernel
theorem dX10_one_20 : decode cX10_one 20 = .ok (.iload_n 1, 1) := by decide +kernel
theorem dX10_one_21 : decode cX10_one 21 = .ok (.bipush 45, 2) := by decide +kernel
theorem dX10_one_23 : decode cX10_one 23 = .ok (.if_icmp .eq 9, 3) := by decide +kernel
theorem dX10_one_26 : decode cX10_one 26 = .ok (.iload_n 1, 1) := by decide +kernel
theorem dX10_one_27 : decode cX10_one 27 = .ok (.bipush 40, 2) := by decide +kernel
theorem dX10_one_29 : decode cX10_one 29 = .ok (.if_icmp .ne 116, 3) := by decide +kernel
theorem dX10_one_32 : decode cX10_one 32 = .ok (.aload_n 0, 1) := by decide +kernel
theorem dX10_one_33 : decode cX10_one 33 = .ok (.getfield 273, 3) := by decide +kernel
theorem dX10_one_36 : decode cX10_one 36 = .ok (.bipush 6, 2) := by decide +kernel
theorem dX10_one_38 : decode cX10_one 38 = .ok (.if_icmp .ne 8, 3) := by decide +kernel
theorem dX10_one_41 : decode cX10_one 41 = .ok (.aload_n 0, 1) := by decide +kernel
theorem dX10_one_42 : decode cX10_one 42 = .ok (.invokevirtual 276, 3) := by decide +kernel
theorem dX10_one_45 : decode cX10_one 45 = .ok (.ireturn, 1) := by decide +kernel
theorem dX10_one_46 : decode cX10_one 46 = .ok (.aload_n 0, 1) := by decide +kernel
theorem dX10_one_47 : decode cX10_one 47 = .ok (.dup, 1) := by decide +kernel
theorem dX10_one_48 : decode cX10_one 48 = .ok (.getfield 273, 3) := by decide +kernel
theorem dX10_one_51 : decode cX10_one 51 = .ok (.iconst 1, 1) := by decide +kernel
theorem dX10_one_52 : decode cX10_one 52 = .ok (.iadd, 1) := by decide +kernel
theorem dX10_one_53 : decode cX10_one 53 = .ok (.putfield 273, 3) := by decide +kernel
theorem dX10_one_56 : decode cX10_one 56 = .ok (.aload_n 0, 1) := by decide +kernel
theorem dX10_one_57 : decode cX10_one 57 = .ok (.dup, 1) := by decide +kernel
theorem dX10_one_58 : decode cX10_one 58 = .ok (.getfield 239, 3) := by decide +kernel
theorem dX10_one_61 : decode cX10_one 61 = .ok (.iconst 1, 1) := by decide +kernel
theorem dX10_one_62 : decode cX10_one 62 = .ok (.iadd, 1) := by decide +kernel
theorem dX10_one_63 : decode cX10_one 63 = .ok (.putfield 239, 3) := by decide +kernel
theorem dX10_one_66 : decode cX10_one 66 = .ok (.iload_n 1, 1) := by decide +kernel
theorem dX10_one_67 : decode cX10_one 67 = .ok (.bipush 40, 2) := by decide +kernel
theorem dX10_one_69 : decode cX10_one 69 = .ok (.if_icmp .ne 10, 3) := by decide +kernel
theorem dX10_one_72 : decode cX10_one 72 = .ok (.aload_n 0, 1) := by decide +kernel
theorem dX10_one_73 : decode cX10_one 73 = .ok (.invokevirtual 279, 3) := by decide +kernel
theorem dX10_one_76 : decode cX10_one 76 = .ok (.goto 7, 3) := by decide +kernel
theorem dX10_one_79 : decode cX10_one 79 = .ok (.aload_n 0, 1) := by decide +kernel
theorem dX10_one_80 : decode cX10_one 80 = .ok (.invokevirtual 270, 3) := by decide +kernel
theorem dX10_one_83 : decode cX10_one 83 = .ok (.istore_n 2, 1) := by decide +kernel
theorem dX10_one_84 : decode cX10_one 84 = .ok (.iload_n 1, 1) := by decide +kernel
theorem dX10_one_85 : decode cX10_one 85 = .ok (.bipush 40, 2) := by decide +kernel
theorem dX10_one_87 : decode cX10_one 87 = .ok (.if_icmp .ne 17, 3) := by decide +kernel
theorem dX10_one_90 : decode cX10_one 90 = .ok (.aload_n 0, 1) := by decide +kernel
theorem dX10_one_91 : decode cX10_one 91 = .ok (.bipush 41, 2) := by decide +kernel
theorem dX10_one_93 : decode cX10_one 93 = .ok (.invokevirtual 258, 3) := by decide +kernel
theorem dX10_one_96 : decode cX10_one 96 = .ok (.ifCond .ne 8, 3) := by decide +kernel
theorem dX10_one_99 : decode cX10_one 99 = .ok (.aload_n 0, 1) := by decide +kernel
theorem dX10_one_100 : decode cX10_one 100 = .ok (.invokevirtual 276, 3) := by decide +kernel
theorem dX10_one_103 : decode cX10_one 103 = .ok (.ireturn, 1) := by decide +kernel
theorem dX10_one_104 : decode cX10_one 104 = .ok (.aload_n 0, 1) := by decide +kernel
theorem dX10_one_105 : decode cX10_one 105 = .ok (.dup, 1) := by decide +kernel
theorem dX10_one_106 : decode cX10_one 106 = .ok (.getfield 273, 3) := by decide +kernel
theorem dX10_one_109 : decode cX10_one 109 = .ok (.iconst 1, 1) := by decide +kernel
theorem dX10_one_110 : decode cX10_one 110 = .ok (.isub, 1) := by decide +kernel
theorem dX10_one_111 : decode cX10_one 111 = .ok (.putfield 273, 3) := by decide +kernel
theorem dX10_one_114 : decode cX10_one 114 = .ok (.iload_n 1, 1) := by decide +kernel
theorem dX10_one_115 : decode cX10_one 115 = .ok (.bipush 40, 2) := by decide +kernel
theorem dX10_one_117 : decode cX10_one 117 = .ok (.if_icmp .ne 7, 3) := by decide +kernel
theorem dX10_one_120 : decode cX10_one 120 = .ok (.iload_n 2, 1) := by decide +kernel
theorem dX10_one_121 : decode cX10_one 121 = .ok (.goto 23, 3) := by decide +kernel
theorem dX10_one_124 : decode cX10_one 124 = .ok (.iload_n 1, 1) := by decide +kernel
theorem dX10_one_125 : decode cX10_one 125 = .ok (.bipush 45, 2) := by decide +kernel
theorem dX10_one_127 : decode cX10_one 127 = .ok (.if_icmp .ne 8, 3) := by decide +kernel
theorem dX10_one_130 : decode cX10_one 130 = .ok (.iload_n 2, 1) := by decide +kernel
theorem dX10_one_131 : decode cX10_one 131 = .ok (.ineg, 1) := by decide +kernel
theorem dX10_one_132 : decode cX10_one 132 = .ok (.goto 12, 3) := by decide +kernel
theorem dX10_one_135 : decode cX10_one 135 = .ok (.iload_n 2, 1) := by decide +kernel
theorem dX10_one_136 : decode cX10_one 136 = .ok (.ifCond .ne 7, 3) := by decide +kernel
theorem dX10_one_139 : decode cX10_one 139 = .ok (.iconst 1, 1) := by decide +kernel
theorem dX10_one_140 : decode cX10_one 140 = .ok (.goto 4, 3) := by decide +kernel
theorem dX10_one_143 : decode cX10_one 143 = .ok (.iconst 0, 1) := by decide +kernel
theorem dX10_one_144 : decode cX10_one 144 = .ok (.ireturn, 1) := by decide +kernel
theorem dX10_one_145 : decode cX10_one 145 = .ok (.iload_n 1, 1) := by decide +kernel
theorem dX10_one_146 : decode cX10_one 146 = .ok (.invokestatic 282, 3) := by decide +kernel
theorem dX10_one_149 : decode cX10_one 149 = .ok (.istore_n 2, 1) := by decide +kernel
theorem dX10_one_150 : decode cX10_one 150 = .ok (.iload_n 2, 1) := by decide +kernel
theorem dX10_one_151 : decode cX10_one 151 = .ok (.ifCond .lt 20, 3) := by decide +kernel
theorem dX10_one_154 : decode cX10_one 154 = .ok (.aload_n 0, 1) := by decide +kernel
theorem dX10_one_155 : decode cX10_one 155 = .ok (.dup, 1) := by decide +kernel
theorem dX10_one_156 : decode cX10_one 156 = .ok (.getfield 239, 3) := by decide +kernel
theorem dX10_one_159 : decode cX10_one 159 = .ok (.iconst 1, 1) := by decide +kernel
theorem dX10_one_160 : decode cX10_one 160 = .ok (.iadd, 1) := by decide +kernel
theorem dX10_one_161 : decode cX10_one 161 = .ok (.putfield 239, 3) := by decide +kernel
theorem dX10_one_164 : decode cX10_one 164 = .ok (.aload_n 0, 1) := by decide +kernel
theorem dX10_one_165 : decode cX10_one 165 = .ok (.getfield 55, 3) := by decide +kernel
theorem dX10_one_168 : decode cX10_one 168 = .ok (.iload_n 2, 1) := by decide +kernel
theorem dX10_one_169 : decode cX10_one 169 = .ok (.iaload, 1) := by decide +kernel
theorem dX10_one_170 : decode cX10_one 170 = .ok (.ireturn, 1) := by decide +kernel
theorem dX10_one_171 : decode cX10_one 171 = .ok (.iconst 0, 1) := by decide +kernel
theorem dX10_one_172 : decode cX10_one 172 = .ok (.istore_n 3, 1) := by decide +kernel
theorem dX10_one_173 : decode cX10_one 173 = .ok (.iconst 0, 1) := by decide +kernel
theorem dX10_one_174 : decode cX10_one 174 = .ok (.istore 4, 2) := by decide +kernel
theorem dX10_one_176 : decode cX10_one 176 = .ok (.iload 4, 2) := by decide +kernel
theorem dX10_one_178 : decode cX10_one 178 = .ok (.iconst 4, 1) := by decide +kernel
theorem dX10_one_179 : decode cX10_one 179 = .ok (.if_icmp .ge 50, 3) := by decide +kernel
theorem dX10_one_182 : decode cX10_one 182 = .ok (.aload_n 0, 1) := by decide +kernel
theorem dX10_one_183 : decode cX10_one 183 = .ok (.invokevirtual 251, 3) := by decide +kernel
theorem dX10_one_186 : decode cX10_one 186 = .ok (.bipush 48, 2) := by decide +kernel
theorem dX10_one_188 : decode cX10_one 188 = .ok (.if_icmp .lt 41, 3) := by decide +kernel
theorem dX10_one_191 : decode cX10_one 191 = .ok (.aload_n 0, 1) := by decide +kernel
theorem dX10_one_192 : decode cX10_one 192 = .ok (.invokevirtual 251, 3) := by decide +kernel
theorem dX10_one_195 : decode cX10_one 195 = .ok (.bipush 57, 2) := by decide +kernel
theorem dX10_one_197 : decode cX10_one 197 = .ok (.if_icmp .gt 32, 3) := by decide +kernel
theorem dX10_one_200 : decode cX10_one 200 = .ok (.bipush 10, 2) := by decide +kernel
theorem dX10_one_202 : decode cX10_one 202 = .ok (.iload_n 3, 1) := by decide +kernel
theorem dX10_one_203 : decode cX10_one 203 = .ok (.imul, 1) := by decide +kernel
theorem dX10_one_204 : decode cX10_one 204 = .ok (.aload_n 0, 1) := by decide +kernel
theorem dX10_one_205 : decode cX10_one 205 = .ok (.invokevirtual 251, 3) := by decide +kernel
theorem dX10_one_208 : decode cX10_one 208 = .ok (.iadd, 1) := by decide +kernel
theorem dX10_one_209 : decode cX10_one 209 = .ok (.bipush 48, 2) := by decide +kernel
theorem dX10_one_211 : decode cX10_one 211 = .ok (.isub, 1) := by decide +kernel
theorem dX10_one_212 : decode cX10_one 212 = .ok (.istore_n 3, 1) := by decide +kernel
theorem dX10_one_213 : decode cX10_one 213 = .ok (.iinc 4 1, 3) := by decide +kernel
theorem dX10_one_216 : decode cX10_one 216 = .ok (.aload_n 0, 1) := by decide +kernel
theorem dX10_one_217 : decode cX10_one 217 = .ok (.dup, 1) := by decide +kernel
theorem dX10_one_218 : decode cX10_one 218 = .ok (.getfield 239, 3) := by decide +kernel
theorem dX10_one_221 : decode cX10_one 221 = .ok (.iconst 1, 1) := by decide +kernel
theorem dX10_one_222 : decode cX10_one 222 = .ok (.iadd, 1) := by decide +kernel
theorem dX10_one_223 : decode cX10_one 223 = .ok (.putfield 239, 3) := by decide +kernel
theorem dX10_one_226 : decode cX10_one 226 = .ok (.goto (-50), 3) := by decide +kernel
theorem dX10_one_229 : decode cX10_one 229 = .ok (.iload 4, 2) := by decide +kernel
theorem dX10_one_231 : decode cX10_one 231 = .ok (.ifCond .ne 10, 3) := by decide +kernel
theorem dX10_one_234 : decode cX10_one 234 = .ok (.aload_n 0, 1) := by decide +kernel
theorem dX10_one_235 : decode cX10_one 235 = .ok (.invokevirtual 276, 3) := by decide +kernel
theorem dX10_one_238 : decode cX10_one 238 = .ok (.goto 4, 3) := by decide +kernel
theorem dX10_one_241 : decode cX10_one 241 = .ok (.iload_n 3, 1) := by decide +kernel
theorem dX10_one_242 : decode cX10_one 242 = .ok (.ireturn, 1) := by decide +kernel
theorem dX10_workOut_0 : decode cX10_workOut 0 = .ok (.aload_n 0, 1) := by decide +kernel
theorem dX10_workOut_1 : decode cX10_workOut 1 = .ok (.iload_n 1, 1) := by decide +kernel
theorem dX10_workOut_2 : decode cX10_workOut 2 = .ok (.putfield 245, 3) := by decide +kernel
theorem dX10_workOut_5 : decode cX10_workOut 5 = .ok (.aload_n 0, 1) := by decide +kernel
theorem dX10_workOut_6 : decode cX10_workOut 6 = .ok (.iconst 0, 1) := by decide +kernel
theorem dX10_workOut_7 : decode cX10_workOut 7 = .ok (.putfield 239, 3) := by decide +kernel
theorem dX10_workOut_10 : decode cX10_workOut 10 = .ok (.aload_n 0, 1) := by decide +kernel
theorem dX10_workOut_11 : decode cX10_workOut 11 = .ok (.iload_n 2, 1) := by decide +kernel
theorem dX10_workOut_12 : decode cX10_workOut 12 = .ok (.putfield 242, 3) := by decide +kernel
theorem dX10_workOut_15 : decode cX10_workOut 15 = .ok (.aload_n 0, 1) := by decide +kernel
theorem dX10_workOut_16 : decode cX10_workOut 16 = .ok (.iconst (-1), 1) := by decide +kernel
theorem dX10_workOut_17 : decode cX10_workOut 17 = .ok (.putfield 248, 3) := by decide +kernel
theorem dX10_workOut_20 : decode cX10_workOut 20 = .ok (.aload_n 0, 1) := by decide +kernel
theorem dX10_workOut_21 : decode cX10_workOut 21 = .ok (.iconst 0, 1) := by decide +kernel
theorem dX10_workOut_22 : decode cX10_workOut 22 = .ok (.putfield 273, 3) := by decide +kernel
theorem dX10_workOut_25 : decode cX10_workOut 25 = .ok (.iconst 0, 1) := by decide +kernel
theorem dX10_workOut_26 : decode cX10_workOut 26 = .ok (.istore_n 3, 1) := by decide +kernel
theorem dX10_workOut_27 : decode cX10_workOut 27 = .ok (.iconst 0, 1) := by decide +kernel
theorem dX10_workOut_28 : decode cX10_workOut 28 = .ok (.istore 4, 2) := by decide +kernel
theorem dX10_workOut_30 : decode cX10_workOut 30 = .ok (.iconst 1, 1) := by decide +kernel
theorem dX10_workOut_31 : decode cX10_workOut 31 = .ok (.istore 5, 2) := by decide +kernel
theorem dX10_workOut_33 : decode cX10_workOut 33 = .ok (.iload 5, 2) := by decide +kernel
theorem dX10_workOut_35 : decode cX10_workOut 35 = .ok (.ifCond .eq 72, 3) := by decide +kernel
theorem dX10_workOut_38 : decode cX10_workOut 38 = .ok (.aload_n 0, 1) := by decide +kernel
theorem dX10_workOut_39 : decode cX10_workOut 39 = .ok (.invokevirtual 279, 3) := by decide +kernel
theorem dX10_workOut_42 : decode cX10_workOut 42 = .ok (.istore 6, 2) := by decide +kernel
theorem dX10_workOut_44 : decode cX10_workOut 44 = .ok (.iconst 1, 1) := by decide +kernel
theorem dX10_workOut_45 : decode cX10_workOut 45 = .ok (.istore 7, 2) := by decide +kernel
theorem dX10_workOut_47 : decode cX10_workOut 47 = .ok (.aload_n 0, 1) := by decide +kernel
theorem dX10_workOut_48 : decode cX10_workOut 48 = .ok (.bipush 63, 2) := by decide +kernel
theorem dX10_workOut_50 : decode cX10_workOut 50 = .ok (.invokevirtual 258, 3) := by decide +kernel
theorem dX10_workOut_53 : decode cX10_workOut 53 = .ok (.ifCond .eq 21, 3) := by decide +kernel
theorem dX10_workOut_56 : decode cX10_workOut 56 = .ok (.iload 6, 2) := by decide +kernel
theorem dX10_workOut_58 : decode cX10_workOut 58 = .ok (.ifCond .eq 7, 3) := by decide +kernel
theorem dX10_workOut_61 : decode cX10_workOut 61 = .ok (.iconst 1, 1) := by decide +kernel
theorem dX10_workOut_62 : decode cX10_workOut 62 = .ok (.goto 4, 3) := by decide +kernel
theorem dX10_workOut_65 : decode cX10_workOut 65 = .ok (.iconst 0, 1) := by decide +kernel
theorem dX10_workOut_66 : decode cX10_workOut 66 = .ok (.istore 7, 2) := by decide +kernel
theorem dX10_workOut_68 : decode cX10_workOut 68 = .ok (.aload_n 0, 1) := by decide +kernel
theorem dX10_workOut_69 : decode cX10_workOut 69 = .ok (.invokevirtual 279, 3) := by decide +kernel
theorem dX10_workOut_72 : decode cX10_workOut 72 = .ok (.istore 6, 2) := by decide +kernel
theorem dX10_workOut_74 : decode cX10_workOut 74 = .ok (.aload_n 0, 1) := by decide +kernel
theorem dX10_workOut_75 : decode cX10_workOut 75 = .ok (.getfield 248, 3) := by decide +kernel
theorem dX10_workOut_78 : decode cX10_workOut 78 = .ok (.ifCond .ge 18, 3) := by decide +kernel
theorem dX10_workOut_81 : decode cX10_workOut 81 = .ok (.iload 7, 2) := by decide +kernel
theorem dX10_workOut_83 : decode cX10_workOut 83 = .ok (.ifCond .eq 13, 3) := by decide +kernel
theorem dX10_workOut_86 : decode cX10_workOut 86 = .ok (.iload_n 3, 1) := by decide +kernel
theorem dX10_workOut_87 : decode cX10_workOut 87 = .ok (.ifCond .ne 9, 3) := by decide +kernel
theorem dX10_workOut_90 : decode cX10_workOut 90 = .ok (.iconst 1, 1) := by decide +kernel
theorem dX10_workOut_91 : decode cX10_workOut 91 = .ok (.istore_n 3, 1) := by decide +kernel
theorem dX10_workOut_92 : decode cX10_workOut 92 = .ok (.iload 6, 2) := by decide +kernel
theorem dX10_workOut_94 : decode cX10_workOut 94 = .ok (.istore 4, 2) := by decide +kernel
theorem dX10_workOut_96 : decode cX10_workOut 96 = .ok (.aload_n 0, 1) := by decide +kernel
theorem dX10_workOut_97 : decode cX10_workOut 97 = .ok (.bipush 59, 2) := by decide +kernel
theorem dX10_workOut_99 : decode cX10_workOut 99 = .ok (.invokevirtual 258, 3) := by decide +kernel
theorem dX10_workOut_102 : decode cX10_workOut 102 = .ok (.istore 5, 2) := by decide +kernel
theorem dX10_workOut_104 : decode cX10_workOut 104 = .ok (.goto (-71), 3) := by decide +kernel
theorem dX10_workOut_107 : decode cX10_workOut 107 = .ok (.aload_n 0, 1) := by decide +kernel
theorem dX10_workOut_108 : decode cX10_workOut 108 = .ok (.getfield 248, 3) := by decide +kernel
theorem dX10_workOut_111 : decode cX10_workOut 111 = .ok (.ifCond .ge 19, 3) := by decide +kernel
theorem dX10_workOut_114 : decode cX10_workOut 114 = .ok (.aload_n 0, 1) := by decide +kernel
theorem dX10_workOut_115 : decode cX10_workOut 115 = .ok (.getfield 239, 3) := by decide +kernel
theorem dX10_workOut_118 : decode cX10_workOut 118 = .ok (.aload_n 0, 1) := by decide +kernel
theorem dX10_workOut_119 : decode cX10_workOut 119 = .ok (.getfield 242, 3) := by decide +kernel
theorem dX10_workOut_122 : decode cX10_workOut 122 = .ok (.if_icmp .ge 8, 3) := by decide +kernel
theorem dX10_workOut_125 : decode cX10_workOut 125 = .ok (.aload_n 0, 1) := by decide +kernel
theorem dX10_workOut_126 : decode cX10_workOut 126 = .ok (.invokevirtual 276, 3) := by decide +kernel
theorem dX10_workOut_129 : decode cX10_workOut 129 = .ok (.ireturn, 1) := by decide +kernel
theorem dX10_workOut_130 : decode cX10_workOut 130 = .ok (.iload 4, 2) := by decide +kernel
theorem dX10_workOut_132 : decode cX10_workOut 132 = .ok (.ireturn, 1) := by decide +kernel
theorem dX10_law_0 : decode cX10_law 0 = .ok (.aload_n 0, 1) := by decide +kernel
theorem dX10_law_1 : decode cX10_law 1 = .ok (.iconst (-1), 1) := by decide +kernel
theorem dX10_law_2 : decode cX10_law 2 = .ok (.aload_n 0, 1) := by decide +kernel
theorem dX10_law_3 : decode cX10_law 3 = .ok (.getfield 236, 3) := by decide +kernel
theorem dX10_law_6 : decode cX10_law 6 = .ok (.invokevirtual 285, 3) := by decide +kernel
theorem dX10_law_9 : decode cX10_law 9 = .ok (.istore_n 1, 1) := by decide +kernel
theorem dX10_law_10 : decode cX10_law 10 = .ok (.aload_n 0, 1) := by decide +kernel
theorem dX10_law_11 : decode cX10_law 11 = .ok (.getfield 236, 3) := by decide +kernel
theorem dX10_law_14 : decode cX10_law 14 = .ok (.istore_n 2, 1) := by decide +kernel
theorem dX10_law_15 : decode cX10_law 15 = .ok (.aload_n 0, 1) := by decide +kernel
theorem dX10_law_16 : decode cX10_law 16 = .ok (.iconst 0, 1) := by decide +kernel
theorem dX10_law_17 : decode cX10_law 17 = .ok (.putfield 236, 3) := by decide +kernel
theorem dX10_law_20 : decode cX10_law 20 = .ok (.aload_n 0, 1) := by decide +kernel
theorem dX10_law_21 : decode cX10_law 21 = .ok (.getfield 248, 3) := by decide +kernel
theorem dX10_law_24 : decode cX10_law 24 = .ok (.ifCond .lt 11, 3) := by decide +kernel
theorem dX10_law_27 : decode cX10_law 27 = .ok (.bipush (-100), 2) := by decide +kernel
theorem dX10_law_29 : decode cX10_law 29 = .ok (.aload_n 0, 1) := by decide +kernel
theorem dX10_law_30 : decode cX10_law 30 = .ok (.getfield 248, 3) := by decide +kernel
theorem dX10_law_33 : decode cX10_law 33 = .ok (.isub, 1) := by decide +kernel
theorem dX10_law_34 : decode cX10_law 34 = .ok (.ireturn, 1) := by decide +kernel
theorem dX10_law_35 : decode cX10_law 35 = .ok (.iconst 0, 1) := by decide +kernel
theorem dX10_law_36 : decode cX10_law 36 = .ok (.istore_n 3, 1) := by decide +kernel
theorem dX10_law_37 : decode cX10_law 37 = .ok (.iload_n 3, 1) := by decide +kernel
theorem dX10_law_38 : decode cX10_law 38 = .ok (.iload_n 2, 1) := by decide +kernel
theorem dX10_law_39 : decode cX10_law 39 = .ok (.if_icmp .ge 21, 3) := by decide +kernel
theorem dX10_law_42 : decode cX10_law 42 = .ok (.aload_n 0, 1) := by decide +kernel
theorem dX10_law_43 : decode cX10_law 43 = .ok (.getfield 52, 3) := by decide +kernel
theorem dX10_law_46 : decode cX10_law 46 = .ok (.iload_n 3, 1) := by decide +kernel
theorem dX10_law_47 : decode cX10_law 47 = .ok (.aload_n 0, 1) := by decide +kernel
theorem dX10_law_48 : decode cX10_law 48 = .ok (.getfield 49, 3) := by decide +kernel
theorem dX10_law_51 : decode cX10_law 51 = .ok (.iload_n 3, 1) := by decide +kernel
theorem dX10_law_52 : decode cX10_law 52 = .ok (.iaload, 1) := by decide +kernel
theorem dX10_law_53 : decode cX10_law 53 = .ok (.iastore, 1) := by decide +kernel
theorem dX10_law_54 : decode cX10_law 54 = .ok (.iinc 3 1, 3) := by decide +kernel
theorem dX10_law_57 : decode cX10_law 57 = .ok (.goto (-20), 3) := by decide +kernel
theorem dX10_law_60 : decode cX10_law 60 = .ok (.aload_n 0, 1) := by decide +kernel
theorem dX10_law_61 : decode cX10_law 61 = .ok (.iload_n 2, 1) := by decide +kernel
theorem dX10_law_62 : decode cX10_law 62 = .ok (.putfield 104, 3) := by decide +kernel
theorem dX10_law_65 : decode cX10_law 65 = .ok (.iconst 1, 1) := by decide +kernel
theorem dX10_law_66 : decode cX10_law 66 = .ok (.ireturn, 1) := by decide +kernel
theorem dX10_worthOf_0 : decode cX10_worthOf 0 = .ok (.aload_n 0, 1) := by decide +kernel
theorem dX10_worthOf_1 : decode cX10_worthOf 1 = .ok (.getfield 104, 3) := by decide +kernel
theorem dX10_worthOf_4 : decode cX10_worthOf 4 = .ok (.ifCond .ge 26, 3) := by decide +kernel
theorem dX10_worthOf_7 : decode cX10_worthOf 7 = .ok (.aload_n 0, 1) := by decide +kernel
theorem dX10_worthOf_8 : decode cX10_worthOf 8 = .ok (.iload_n 2, 1) := by decide +kernel
theorem dX10_worthOf_9 : decode cX10_worthOf 9 = .ok (.invokevirtual 171, 3) := by decide +kernel
theorem dX10_worthOf_12 : decode cX10_worthOf 12 = .ok (.aload_n 0, 1) := by decide +kernel
theorem dX10_worthOf_13 : decode cX10_worthOf 13 = .ok (.getfield 40, 3) := by decide +kernel
theorem dX10_worthOf_16 : decode cX10_worthOf 16 = .ok (.iload_n 1, 1) := by decide +kernel
theorem dX10_worthOf_17 : decode cX10_worthOf 17 = .ok (.iaload, 1) := by decide +kernel
theorem dX10_worthOf_18 : decode cX10_worthOf 18 = .ok (.isub, 1) := by decide +kernel
theorem dX10_worthOf_19 : decode cX10_worthOf 19 = .ok (.bipush 10, 2) := by decide +kernel
theorem dX10_worthOf_21 : decode cX10_worthOf 21 = .ok (.aload_n 0, 1) := by decide +kernel
theorem dX10_worthOf_22 : decode cX10_worthOf 22 = .ok (.getfield 64, 3) := by decide +kernel
theorem dX10_worthOf_25 : decode cX10_worthOf 25 = .ok (.iload_n 2, 1) := by decide +kernel
theorem dX10_worthOf_26 : decode cX10_worthOf 26 = .ok (.iaload, 1) := by decide +kernel
theorem dX10_worthOf_27 : decode cX10_worthOf 27 = .ok (.imul, 1) := by decide +kernel
theorem dX10_worthOf_28 : decode cX10_worthOf 28 = .ok (.isub, 1) := by decide +kernel
theorem dX10_worthOf_29 : decode cX10_worthOf 29 = .ok (.ireturn, 1) := by decide +kernel
theorem dX10_worthOf_30 : decode cX10_worthOf 30 = .ok (.aload_n 0, 1) := by decide +kernel
theorem dX10_worthOf_31 : decode cX10_worthOf 31 = .ok (.getfield 55, 3) := by decide +kernel
theorem dX10_worthOf_34 : decode cX10_worthOf 34 = .ok (.iconst 0, 1) := by decide +kernel
theorem dX10_worthOf_35 : decode cX10_worthOf 35 = .ok (.aload_n 0, 1) := by decide +kernel
theorem dX10_worthOf_36 : decode cX10_worthOf 36 = .ok (.iload_n 2, 1) := by decide +kernel
theorem dX10_worthOf_37 : decode cX10_worthOf 37 = .ok (.invokevirtual 171, 3) := by decide +kernel
theorem dX10_worthOf_40 : decode cX10_worthOf 40 = .ok (.iastore, 1) := by decide +kernel
theorem dX10_worthOf_41 : decode cX10_worthOf 41 = .ok (.aload_n 0, 1) := by decide +kernel
theorem dX10_worthOf_42 : decode cX10_worthOf 42 = .ok (.getfield 55, 3) := by decide +kernel
theorem dX10_worthOf_45 : decode cX10_worthOf 45 = .ok (.iconst 1, 1) := by decide +kernel
theorem dX10_worthOf_46 : decode cX10_worthOf 46 = .ok (.aload_n 0, 1) := by decide +kernel
theorem dX10_worthOf_47 : decode cX10_worthOf 47 = .ok (.getfield 40, 3) := by decide +kernel
theorem dX10_worthOf_50 : decode cX10_worthOf 50 = .ok (.iload_n 1, 1) := by decide +kernel
theorem dX10_worthOf_51 : decode cX10_worthOf 51 = .ok (.iaload, 1) := by decide +kernel
theorem dX10_worthOf_52 : decode cX10_worthOf 52 = .ok (.iastore, 1) := by decide +kernel
theorem dX10_worthOf_53 : decode cX10_worthOf 53 = .ok (.aload_n 0, 1) := by decide +kernel
theorem dX10_worthOf_54 : decode cX10_worthOf 54 = .ok (.getfield 55, 3) := by decide +kernel
theorem dX10_worthOf_57 : decode cX10_worthOf 57 = .ok (.iconst 2, 1) := by decide +kernel
theorem dX10_worthOf_58 : decode cX10_worthOf 58 = .ok (.aload_n 0, 1) := by decide +kernel
theorem dX10_worthOf_59 : decode cX10_worthOf 59 = .ok (.getfield 67, 3) := by decide +kernel
theorem dX10_worthOf_62 : decode cX10_worthOf 62 = .ok (.iload_n 2, 1) := by decide +kernel
theorem dX10_worthOf_63 : decode cX10_worthOf 63 = .ok (.iaload, 1) := by decide +kernel
theorem dX10_worthOf_64 : decode cX10_worthOf 64 = .ok (.iastore, 1) := by decide +kernel
theorem dX10_worthOf_65 : decode cX10_worthOf 65 = .ok (.aload_n 0, 1) := by decide +kernel
theorem dX10_worthOf_66 : decode cX10_worthOf 66 = .ok (.getfield 55, 3) := by decide +kernel
theorem dX10_worthOf_69 : decode cX10_worthOf 69 = .ok (.iconst 3, 1) := by decide +kernel
theorem dX10_worthOf_70 : decode cX10_worthOf 70 = .ok (.aload_n 0, 1) := by decide +kernel
theorem dX10_worthOf_71 : decode cX10_worthOf 71 = .ok (.getfield 43, 3) := by decide +kernel
theorem dX10_worthOf_74 : decode cX10_worthOf 74 = .ok (.iload_n 1, 1) := by decide +kernel
theorem dX10_worthOf_75 : decode cX10_worthOf 75 = .ok (.iaload, 1) := by decide +kernel
theorem dX10_worthOf_76 : decode cX10_worthOf 76 = .ok (.iastore, 1) := by decide +kernel
theorem dX10_worthOf_77 : decode cX10_worthOf 77 = .ok (.aload_n 0, 1) := by decide +kernel
theorem dX10_worthOf_78 : decode cX10_worthOf 78 = .ok (.getfield 55, 3) := by decide +kernel
theorem dX10_worthOf_81 : decode cX10_worthOf 81 = .ok (.iconst 4, 1) := by decide +kernel
theorem dX10_worthOf_82 : decode cX10_worthOf 82 = .ok (.aload_n 0, 1) := by decide +kernel
theorem dX10_worthOf_83 : decode cX10_worthOf 83 = .ok (.getfield 64, 3) := by decide +kernel
theorem dX10_worthOf_86 : decode cX10_worthOf 86 = .ok (.iload_n 2, 1) := by decide +kernel
theorem dX10_worthOf_87 : decode cX10_worthOf 87 = .ok (.iaload, 1) := by decide +kernel
theorem dX10_worthOf_88 : decode cX10_worthOf 88 = .ok (.iastore, 1) := by decide +kernel
theorem dX10_worthOf_89 : decode cX10_worthOf 89 = .ok (.aload_n 0, 1) := by decide +kernel
theorem dX10_worthOf_90 : decode cX10_worthOf 90 = .ok (.getfield 55, 3) := by decide +kernel
theorem dX10_worthOf_93 : decode cX10_worthOf 93 = .ok (.iconst 5, 1) := by decide +kernel
theorem dX10_worthOf_94 : decode cX10_worthOf 94 = .ok (.aload_n 0, 1) := by decide +kernel
theorem dX10_worthOf_95 : decode cX10_worthOf 95 = .ok (.getfield 37, 3) := by decide +kernel
theorem dX10_worthOf_98 : decode cX10_worthOf 98 = .ok (.iload_n 1, 1) := by decide +kernel
theorem dX10_worthOf_99 : decode cX10_worthOf 99 = .ok (.iaload, 1) := by decide +kernel
theorem dX10_worthOf_100 : decode cX10_worthOf 100 = .ok (.iastore, 1) := by decide +kernel
theorem dX10_worthOf_101 : decode cX10_worthOf 101 = .ok (.aload_n 0, 1) := by decide +kernel
theorem dX10_worthOf_102 : decode cX10_worthOf 102 = .ok (.getfield 55, 3) := by decide +kernel
theorem dX10_worthOf_105 : decode cX10_worthOf 105 = .ok (.bipush 6, 2) := by decide +kernel
theorem dX10_worthOf_107 : decode cX10_worthOf 107 = .ok (.iload_n 2, 1) := by decide +kernel
theorem dX10_worthOf_108 : decode cX10_worthOf 108 = .ok (.iastore, 1) := by decide +kernel
theorem dX10_worthOf_109 : decode cX10_worthOf 109 = .ok (.aload_n 0, 1) := by decide +kernel
theorem dX10_worthOf_110 : decode cX10_worthOf 110 = .ok (.getfield 55, 3) := by decide +kernel
theorem dX10_worthOf_113 : decode cX10_worthOf 113 = .ok (.bipush 7, 2) := by decide +kernel
theorem dX10_worthOf_115 : decode cX10_worthOf 115 = .ok (.aload_n 0, 1) := by decide +kernel
theorem dX10_worthOf_116 : decode cX10_worthOf 116 = .ok (.getfield 61, 3) := by decide +kernel
theorem dX10_worthOf_119 : decode cX10_worthOf 119 = .ok (.iload_n 1, 1) := by decide +kernel
theorem dX10_worthOf_120 : decode cX10_worthOf 120 = .ok (.iaload, 1) := by decide +kernel
theorem dX10_worthOf_121 : decode cX10_worthOf 121 = .ok (.iload_n 2, 1) := by decide +kernel
theorem dX10_worthOf_122 : decode cX10_worthOf 122 = .ok (.if_icmp .ne 7, 3) := by decide +kernel
theorem dX10_worthOf_125 : decode cX10_worthOf 125 = .ok (.iconst 1, 1) := by decide +kernel
theorem dX10_worthOf_126 : decode cX10_worthOf 126 = .ok (.goto 4, 3) := by decide +kernel
theorem dX10_worthOf_129 : decode cX10_worthOf 129 = .ok (.iconst 0, 1) := by decide +kernel
theorem dX10_worthOf_130 : decode cX10_worthOf 130 = .ok (.iastore, 1) := by decide +kernel
theorem dX10_worthOf_131 : decode cX10_worthOf 131 = .ok (.aload_n 0, 1) := by decide +kernel
theorem dX10_worthOf_132 : decode cX10_worthOf 132 = .ok (.iconst 0, 1) := by decide +kernel
theorem dX10_worthOf_133 : decode cX10_worthOf 133 = .ok (.aload_n 0, 1) := by decide +kernel
theorem dX10_worthOf_134 : decode cX10_worthOf 134 = .ok (.getfield 104, 3) := by decide +kernel
theorem dX10_worthOf_137 : decode cX10_worthOf 137 = .ok (.invokevirtual 285, 3) := by decide +kernel
theorem dX10_worthOf_140 : decode cX10_worthOf 140 = .ok (.ireturn, 1) := by decide +kernel
theorem dX10_countsThere_0 : decode cX10_countsThere 0 = .ok (.iconst 0, 1) := by decide +kernel
theorem dX10_countsThere_1 : decode cX10_countsThere 1 = .ok (.istore_n 1, 1) := by decide +kernel
theorem dX10_countsThere_2 : decode cX10_countsThere 2 = .ok (.iload_n 1, 1) := by decide +kernel
theorem dX10_countsThere_3 : decode cX10_countsThere 3 = .ok (.aload_n 0, 1) := by decide +kernel
theorem dX10_countsThere_4 : decode cX10_countsThere 4 = .ok (.getfield 117, 3) := by decide +kernel
theorem dX10_countsThere_7 : decode cX10_countsThere 7 = .ok (.if_icmp .ge 16, 3) := by decide +kernel
theorem dX10_countsThere_10 : decode cX10_countsThere 10 = .ok (.aload_n 0, 1) := by decide +kernel
theorem dX10_countsThere_11 : decode cX10_countsThere 11 = .ok (.getfield 64, 3) := by decide +kernel
theorem dX10_countsThere_14 : decode cX10_countsThere 14 = .ok (.iload_n 1, 1) := by decide +kernel
theorem dX10_countsThere_15 : decode cX10_countsThere 15 = .ok (.iconst 0, 1) := by decide +kernel
theorem dX10_countsThere_16 : decode cX10_countsThere 16 = .ok (.iastore, 1) := by decide +kernel
theorem dX10_countsThere_17 : decode cX10_countsThere 17 = .ok (.iinc 1 1, 3) := by decide +kernel
theorem dX10_countsThere_20 : decode cX10_countsThere 20 = .ok (.goto (-18), 3) := by decide +kernel
theorem dX10_countsThere_23 : decode cX10_countsThere 23 = .ok (.iconst 0, 1) := by decide +kernel
theorem dX10_countsThere_24 : decode cX10_countsThere 24 = .ok (.istore_n 1, 1) := by decide +kernel
theorem dX10_countsThere_25 : decode cX10_countsThere 25 = .ok (.iload_n 1, 1) := by decide +kernel
theorem dX10_countsThere_26 : decode cX10_countsThere 26 = .ok (.aload_n 0, 1) := by decide +kernel
theorem dX10_countsThere_27 : decode cX10_countsThere 27 = .ok (.getfield 127, 3) := by decide +kernel
theorem dX10_countsThere_30 : decode cX10_countsThere 30 = .ok (.if_icmp .ge 33, 3) := by decide +kernel
theorem dX10_countsThere_33 : decode cX10_countsThere 33 = .ok (.aload_n 0, 1) := by decide +kernel
theorem dX10_countsThere_34 : decode cX10_countsThere 34 = .ok (.getfield 58, 3) := by decide +kernel
theorem dX10_countsThere_37 : decode cX10_countsThere 37 = .ok (.iload_n 1, 1) := by decide +kernel
theorem dX10_countsThere_38 : decode cX10_countsThere 38 = .ok (.iaload, 1) := by decide +kernel
theorem dX10_countsThere_39 : decode cX10_countsThere 39 = .ok (.ifCond .lt 18, 3) := by decide +kernel
theorem dX10_countsThere_42 : decode cX10_countsThere 42 = .ok (.aload_n 0, 1) := by decide +kernel
theorem dX10_countsThere_43 : decode cX10_countsThere 43 = .ok (.getfield 64, 3) := by decide +kernel
theorem dX10_countsThere_46 : decode cX10_countsThere 46 = .ok (.aload_n 0, 1) := by decide +kernel
theorem dX10_countsThere_47 : decode cX10_countsThere 47 = .ok (.getfield 58, 3) := by decide +kernel
theorem dX10_countsThere_50 : decode cX10_countsThere 50 = .ok (.iload_n 1, 1) := by decide +kernel
theorem dX10_countsThere_51 : decode cX10_countsThere 51 = .ok (.iaload, 1) := by decide +kernel
theorem dX10_countsThere_52 : decode cX10_countsThere 52 = .ok (.dup2, 1) := by decide +kernel
theorem dX10_countsThere_53 : decode cX10_countsThere 53 = .ok (.iaload, 1) := by decide +kernel
theorem dX10_countsThere_54 : decode cX10_countsThere 54 = .ok (.iconst 1, 1) := by decide +kernel
theorem dX10_countsThere_55 : decode cX10_countsThere 55 = .ok (.iadd, 1) := by decide +kernel
theorem dX10_countsThere_56 : decode cX10_countsThere 56 = .ok (.iastore, 1) := by decide +kernel
theorem dX10_countsThere_57 : decode cX10_countsThere 57 = .ok (.iinc 1 1, 3) := by decide +kernel
theorem dX10_countsThere_60 : decode cX10_countsThere 60 = .ok (.goto (-35), 3) := by decide +kernel
theorem dX10_countsThere_63 : decode cX10_countsThere 63 = .ok (.return_, 1) := by decide +kernel
theorem dX10_allGo_0 : decode cX10_allGo 0 = .ok (.iconst 0, 1) := by decide +kernel
theorem dX10_allGo_1 : decode cX10_allGo 1 = .ok (.istore_n 1, 1) := by decide +kernel
theorem dX10_allGo_2 : decode cX10_allGo 2 = .ok (.iload_n 1, 1) := by decide +kernel
theorem dX10_allGo_3 : decode cX10_allGo 3 = .ok (.aload_n 0, 1) := by decide +kernel
theorem dX10_allGo_4 : decode cX10_allGo 4 = .ok (.getfield 127, 3) := by decide +kernel
theorem dX10_allGo_7 : decode cX10_allGo 7 = .ok (.if_icmp .ge 21, 3) := by decide +kernel
theorem dX10_allGo_10 : decode cX10_allGo 10 = .ok (.aload_n 0, 1) := by decide +kernel
theorem dX10_allGo_11 : decode cX10_allGo 11 = .ok (.getfield 61, 3) := by decide +kernel
theorem dX10_allGo_14 : decode cX10_allGo 14 = .ok (.iload_n 1, 1) := by decide +kernel
theorem dX10_allGo_15 : decode cX10_allGo 15 = .ok (.aload_n 0, 1) := by decide +kernel
theorem dX10_allGo_16 : decode cX10_allGo 16 = .ok (.getfield 58, 3) := by decide +kernel
theorem dX10_allGo_19 : decode cX10_allGo 19 = .ok (.iload_n 1, 1) := by decide +kernel
theorem dX10_allGo_20 : decode cX10_allGo 20 = .ok (.iaload, 1) := by decide +kernel
theorem dX10_allGo_21 : decode cX10_allGo 21 = .ok (.iastore, 1) := by decide +kernel
theorem dX10_allGo_22 : decode cX10_allGo 22 = .ok (.iinc 1 1, 3) := by decide +kernel
theorem dX10_allGo_25 : decode cX10_allGo 25 = .ok (.goto (-23), 3) := by decide +kernel
theorem dX10_allGo_28 : decode cX10_allGo 28 = .ok (.iconst 0, 1) := by decide +kernel
theorem dX10_allGo_29 : decode cX10_allGo 29 = .ok (.istore_n 1, 1) := by decide +kernel
theorem dX10_allGo_30 : decode cX10_allGo 30 = .ok (.iload_n 1, 1) := by decide +kernel
theorem dX10_allGo_31 : decode cX10_allGo 31 = .ok (.aload_n 0, 1) := by decide +kernel
theorem dX10_allGo_32 : decode cX10_allGo 32 = .ok (.getfield 127, 3) := by decide +kernel
theorem dX10_allGo_35 : decode cX10_allGo 35 = .ok (.if_icmp .ge 59, 3) := by decide +kernel
theorem dX10_allGo_38 : decode cX10_allGo 38 = .ok (.iconst (-1), 1) := by decide +kernel
theorem dX10_allGo_39 : decode cX10_allGo 39 = .ok (.istore_n 2, 1) := by decide +kernel
theorem dX10_allGo_40 : decode cX10_allGo 40 = .ok (.iconst 0, 1) := by decide +kernel
theorem dX10_allGo_41 : decode cX10_allGo 41 = .ok (.istore_n 3, 1) := by decide +kernel
theorem dX10_allGo_42 : decode cX10_allGo 42 = .ok (.iconst 0, 1) := by decide +kernel
theorem dX10_allGo_43 : decode cX10_allGo 43 = .ok (.istore 4, 2) := by decide +kernel
theorem dX10_allGo_45 : decode cX10_allGo 45 = .ok (.iload 4, 2) := by decide +kernel
theorem dX10_allGo_47 : decode cX10_allGo 47 = .ok (.aload_n 0, 1) := by decide +kernel
theorem dX10_allGo_48 : decode cX10_allGo 48 = .ok (.getfield 117, 3) := by decide +kernel
theorem dX10_allGo_51 : decode cX10_allGo 51 = .ok (.if_icmp .ge 30, 3) := by decide +kernel
theorem dX10_allGo_54 : decode cX10_allGo 54 = .ok (.aload_n 0, 1) := by decide +kernel
theorem dX10_allGo_55 : decode cX10_allGo 55 = .ok (.iload_n 1, 1) := by decide +kernel
theorem dX10_allGo_56 : decode cX10_allGo 56 = .ok (.iload 4, 2) := by decide +kernel
theorem dX10_allGo_58 : decode cX10_allGo 58 = .ok (.invokevirtual 288, 3) := by decide +kernel
theorem dX10_allGo_61 : decode cX10_allGo 61 = .ok (.istore 5, 2) := by decide +kernel
theorem dX10_allGo_63 : decode cX10_allGo 63 = .ok (.iload 5, 2) := by decide +kernel
theorem dX10_allGo_65 : decode cX10_allGo 65 = .ok (.iload_n 3, 1) := by decide +kernel
theorem dX10_allGo_66 : decode cX10_allGo 66 = .ok (.if_icmp .le 9, 3) := by decide +kernel
theorem dX10_allGo_69 : decode cX10_allGo 69 = .ok (.iload 4, 2) := by decide +kernel
theorem dX10_allGo_71 : decode cX10_allGo 71 = .ok (.istore_n 2, 1) := by decide +kernel
theorem dX10_allGo_72 : decode cX10_allGo 72 = .ok (.iload 5, 2) := by decide +kernel
theorem dX10_allGo_74 : decode cX10_allGo 74 = .ok (.istore_n 3, 1) := by decide +kernel
theorem dX10_allGo_75 : decode cX10_allGo 75 = .ok (.iinc 4 1, 3) := by decide +kernel
theorem dX10_allGo_78 : decode cX10_allGo 78 = .ok (.goto (-33), 3) := by decide +kernel
theorem dX10_allGo_81 : decode cX10_allGo 81 = .ok (.aload_n 0, 1) := by decide +kernel
theorem dX10_allGo_82 : decode cX10_allGo 82 = .ok (.getfield 58, 3) := by decide +kernel
theorem dX10_allGo_85 : decode cX10_allGo 85 = .ok (.iload_n 1, 1) := by decide +kernel
theorem dX10_allGo_86 : decode cX10_allGo 86 = .ok (.iload_n 2, 1) := by decide +kernel
theorem dX10_allGo_87 : decode cX10_allGo 87 = .ok (.iastore, 1) := by decide +kernel
theorem dX10_allGo_88 : decode cX10_allGo 88 = .ok (.iinc 1 1, 3) := by decide +kernel
theorem dX10_allGo_91 : decode cX10_allGo 91 = .ok (.goto (-61), 3) := by decide +kernel
theorem dX10_allGo_94 : decode cX10_allGo 94 = .ok (.return_, 1) := by decide +kernel
theorem dX10_theOne_0 : decode cX10_theOne 0 = .ok (.iconst (-1), 1) := by decide +kernel
theorem dX10_theOne_1 : decode cX10_theOne 1 = .ok (.istore_n 2, 1) := by decide +kernel
theorem dX10_theOne_2 : decode cX10_theOne 2 = .ok (.iconst 0, 1) := by decide +kernel
theorem dX10_theOne_3 : decode cX10_theOne 3 = .ok (.istore_n 3, 1) := by decide +kernel
theorem dX10_theOne_4 : decode cX10_theOne 4 = .ok (.iload_n 3, 1) := by decide +kernel
theorem dX10_theOne_5 : decode cX10_theOne 5 = .ok (.aload_n 0, 1) := by decide +kernel
theorem dX10_theOne_6 : decode cX10_theOne 6 = .ok (.getfield 127, 3) := by decide +kernel
theorem dX10_theOne_9 : decode cX10_theOne 9 = .ok (.if_icmp .ge 50, 3) := by decide +kernel
theorem dX10_theOne_12 : decode cX10_theOne 12 = .ok (.aload_n 0, 1) := by decide +kernel
theorem dX10_theOne_13 : decode cX10_theOne 13 = .ok (.getfield 58, 3) := by decide +kernel
theorem dX10_theOne_16 : decode cX10_theOne 16 = .ok (.iload_n 3, 1) := by decide +kernel
theorem dX10_theOne_17 : decode cX10_theOne 17 = .ok (.iaload, 1) := by decide +kernel
theorem dX10_theOne_18 : decode cX10_theOne 18 = .ok (.iload_n 1, 1) := by decide +kernel
theorem dX10_theOne_19 : decode cX10_theOne 19 = .ok (.if_icmp .ne 34, 3) := by decide +kernel
theorem dX10_theOne_22 : decode cX10_theOne 22 = .ok (.iload_n 2, 1) := by decide +kernel
theorem dX10_theOne_23 : decode cX10_theOne 23 = .ok (.ifCond .lt 28, 3) := by decide +kernel
theorem dX10_theOne_26 : decode cX10_theOne 26 = .ok (.aload_n 0, 1) := by decide +kernel
theorem dX10_theOne_27 : decode cX10_theOne 27 = .ok (.getfield 25, 3) := by decide +kernel
theorem dX10_theOne_30 : decode cX10_theOne 30 = .ok (.iload_n 1, 1) := by decide +kernel
theorem dX10_theOne_31 : decode cX10_theOne 31 = .ok (.iaload, 1) := by decide +kernel
theorem dX10_theOne_32 : decode cX10_theOne 32 = .ok (.iconst 4, 1) := by decide +kernel
theorem dX10_theOne_33 : decode cX10_theOne 33 = .ok (.if_icmp .ne 20, 3) := by decide +kernel
theorem dX10_theOne_36 : decode cX10_theOne 36 = .ok (.aload_n 0, 1) := by decide +kernel
theorem dX10_theOne_37 : decode cX10_theOne 37 = .ok (.getfield 37, 3) := by decide +kernel
theorem dX10_theOne_40 : decode cX10_theOne 40 = .ok (.iload_n 3, 1) := by decide +kernel
theorem dX10_theOne_41 : decode cX10_theOne 41 = .ok (.iaload, 1) := by decide +kernel
theorem dX10_theOne_42 : decode cX10_theOne 42 = .ok (.aload_n 0, 1) := by decide +kernel
theorem dX10_theOne_43 : decode cX10_theOne 43 = .ok (.getfield 37, 3) := by decide +kernel
theorem dX10_theOne_46 : decode cX10_theOne 46 = .ok (.iload_n 2, 1) := by decide +kernel
theorem dX10_theOne_47 : decode cX10_theOne 47 = .ok (.iaload, 1) := by decide +kernel
theorem dX10_theOne_48 : decode cX10_theOne 48 = .ok (.if_icmp .le 5, 3) := by decide +kernel
theorem dX10_theOne_51 : decode cX10_theOne 51 = .ok (.iload_n 3, 1) := by decide +kernel
theorem dX10_theOne_52 : decode cX10_theOne 52 = .ok (.istore_n 2, 1) := by decide +kernel
theorem dX10_theOne_53 : decode cX10_theOne 53 = .ok (.iinc 3 1, 3) := by decide +kernel
theorem dX10_theOne_56 : decode cX10_theOne 56 = .ok (.goto (-52), 3) := by decide +kernel
theorem dX10_theOne_59 : decode cX10_theOne 59 = .ok (.iload_n 2, 1) := by decide +kernel
theorem dX10_theOne_60 : decode cX10_theOne 60 = .ok (.ireturn, 1) := by decide +kernel
theorem dX10_streetWeek_0 : decode cX10_streetWeek 0 = .ok (.aload_n 0, 1) := by decide +kernel
theorem dX10_streetWeek_1 : decode cX10_streetWeek 1 = .ok (.getfield 25, 3) := by decide +kernel
theorem dX10_streetWeek_4 : decode cX10_streetWeek 4 = .ok (.iload_n 1, 1) := by decide +kernel
theorem dX10_streetWeek_5 : decode cX10_streetWeek 5 = .ok (.iaload, 1) := by decide +kernel
theorem dX10_streetWeek_6 : decode cX10_streetWeek 6 = .ok (.iconst 2, 1) := by decide +kernel
theorem dX10_streetWeek_7 : decode cX10_streetWeek 7 = .ok (.if_icmp .eq 13, 3) := by decide +kernel
theorem dX10_streetWeek_10 : decode cX10_streetWeek 10 = .ok (.aload_n 0, 1) := by decide +kernel
theorem dX10_streetWeek_11 : decode cX10_streetWeek 11 = .ok (.getfield 25, 3) := by decide +kernel
theorem dX10_streetWeek_14 : decode cX10_streetWeek 14 = .ok (.iload_n 1, 1) := by decide +kernel
theorem dX10_streetWeek_15 : decode cX10_streetWeek 15 = .ok (.iaload, 1) := by decide +kernel
theorem dX10_streetWeek_16 : decode cX10_streetWeek 16 = .ok (.iconst 4, 1) := by decide +kernel
theorem dX10_streetWeek_17 : decode cX10_streetWeek 17 = .ok (.if_icmp .ne 11, 3) := by decide +kernel
theorem dX10_streetWeek_20 : decode cX10_streetWeek 20 = .ok (.aload_n 0, 1) := by decide +kernel
theorem dX10_streetWeek_21 : decode cX10_streetWeek 21 = .ok (.iload_n 1, 1) := by decide +kernel
theorem dX10_streetWeek_22 : decode cX10_streetWeek 22 = .ok (.invokevirtual 291, 3) := by decide +kernel
theorem dX10_streetWeek_25 : decode cX10_streetWeek 25 = .ok (.goto 4, 3) := by decide +kernel
theorem dX10_streetWeek_28 : decode cX10_streetWeek 28 = .ok (.iconst (-1), 1) := by decide +kernel
theorem dX10_streetWeek_29 : decode cX10_streetWeek 29 = .ok (.istore_n 2, 1) := by decide +kernel
theorem dX10_streetWeek_30 : decode cX10_streetWeek 30 = .ok (.iconst 0, 1) := by decide +kernel
theorem dX10_streetWeek_31 : decode cX10_streetWeek 31 = .ok (.istore_n 3, 1) := by decide +kernel
theorem dX10_streetWeek_32 : decode cX10_streetWeek 32 = .ok (.aload_n 0, 1) := by decide +kernel
theorem dX10_streetWeek_33 : decode cX10_streetWeek 33 = .ok (.getfield 67, 3) := by decide +kernel
theorem dX10_streetWeek_36 : decode cX10_streetWeek 36 = .ok (.iload_n 1, 1) := by decide +kernel
theorem dX10_streetWeek_37 : decode cX10_streetWeek 37 = .ok (.iconst 0, 1) := by decide +kernel
theorem dX10_streetWeek_38 : decode cX10_streetWeek 38 = .ok (.iastore, 1) := by decide +kernel
theorem dX10_streetWeek_39 : decode cX10_streetWeek 39 = .ok (.iconst 0, 1) := by decide +kernel
theorem dX10_streetWeek_40 : decode cX10_streetWeek 40 = .ok (.istore 4, 2) := by decide +kernel
theorem dX10_streetWeek_42 : decode cX10_streetWeek 42 = .ok (.iload 4, 2) := by decide +kernel
theorem dX10_streetWeek_44 : decode cX10_streetWeek 44 = .ok (.aload_n 0, 1) := by decide +kernel
theorem dX10_streetWeek_45 : decode cX10_streetWeek 45 = .ok (.getfield 127, 3) := by decide +kernel
theorem dX10_streetWeek_48 : decode cX10_streetWeek 48 = .ok (.if_icmp .ge 171, 3) := by decide +kernel
theorem dX10_streetWeek_51 : decode cX10_streetWeek 51 = .ok (.aload_n 0, 1) := by decide +kernel
theorem dX10_streetWeek_52 : decode cX10_streetWeek 52 = .ok (.getfield 58, 3) := by decide +kernel
theorem dX10_streetWeek_55 : decode cX10_streetWeek 55 = .ok (.iload 4, 2) := by decide +kernel
theorem dX10_streetWeek_57 : decode cX10_streetWeek 57 = .ok (.iaload, 1) := by decide +kernel
theorem dX10_streetWeek_58 : decode cX10_streetWeek 58 = .ok (.iload_n 1, 1) := by decide +kernel
theorem dX10_streetWeek_59 : decode cX10_streetWeek 59 = .ok (.if_icmp .eq 6, 3) := by decide +kernel
theorem dX10_streetWeek_62 : decode cX10_streetWeek 62 = .ok (.goto 151, 3) := by decide +kernel
theorem dX10_streetWeek_65 : decode cX10_streetWeek 65 = .ok (.iinc 3 1, 3) := by decide +kernel
theorem dX10_streetWeek_68 : decode cX10_streetWeek 68 = .ok (.aload_n 0, 1) := by decide +kernel
theorem dX10_streetWeek_69 : decode cX10_streetWeek 69 = .ok (.getfield 25, 3) := by decide +kernel
theorem dX10_streetWeek_72 : decode cX10_streetWeek 72 = .ok (.iload_n 1, 1) := by decide +kernel
theorem dX10_streetWeek_73 : decode cX10_streetWeek 73 = .ok (.iaload, 1) := by decide +kernel
theorem dX10_streetWeek_74 : decode cX10_streetWeek 74 = .ok (.ifCond .eq 28, 3) := by decide +kernel
theorem dX10_streetWeek_77 : decode cX10_streetWeek 77 = .ok (.aload_n 0, 1) := by decide +kernel
theorem dX10_streetWeek_78 : decode cX10_streetWeek 78 = .ok (.getfield 25, 3) := by decide +kernel
theorem dX10_streetWeek_81 : decode cX10_streetWeek 81 = .ok (.iload_n 1, 1) := by decide +kernel
theorem dX10_streetWeek_82 : decode cX10_streetWeek 82 = .ok (.iaload, 1) := by decide +kernel
theorem dX10_streetWeek_83 : decode cX10_streetWeek 83 = .ok (.iconst 3, 1) := by decide +kernel
theorem dX10_streetWeek_84 : decode cX10_streetWeek 84 = .ok (.if_icmp .ne 12, 3) := by decide +kernel
theorem dX10_streetWeek_87 : decode cX10_streetWeek 87 = .ok (.aload_n 0, 1) := by decide +kernel
theorem dX10_streetWeek_88 : decode cX10_streetWeek 88 = .ok (.getfield 22, 3) := by decide +kernel
theorem dX10_streetWeek_91 : decode cX10_streetWeek 91 = .ok (.iload_n 1, 1) := by decide +kernel
theorem dX10_streetWeek_92 : decode cX10_streetWeek 92 = .ok (.iaload, 1) := by decide +kernel
theorem dX10_streetWeek_93 : decode cX10_streetWeek 93 = .ok (.ifCond .eq 9, 3) := by decide +kernel
theorem dX10_streetWeek_96 : decode cX10_streetWeek 96 = .ok (.iload 4, 2) := by decide +kernel
theorem dX10_streetWeek_98 : decode cX10_streetWeek 98 = .ok (.iload_n 2, 1) := by decide +kernel
theorem dX10_streetWeek_99 : decode cX10_streetWeek 99 = .ok (.if_icmp .ne 7, 3) := by decide +kernel
theorem dX10_streetWeek_102 : decode cX10_streetWeek 102 = .ok (.iconst 1, 1) := by decide +kernel
theorem dX10_streetWeek_103 : decode cX10_streetWeek 103 = .ok (.goto 4, 3) := by decide +kernel
theorem dX10_streetWeek_106 : decode cX10_streetWeek 106 = .ok (.iconst 0, 1) := by decide +kernel
theorem dX10_streetWeek_107 : decode cX10_streetWeek 107 = .ok (.istore 5, 2) := by decide +kernel
theorem dX10_streetWeek_109 : decode cX10_streetWeek 109 = .ok (.aload_n 0, 1) := by decide +kernel
theorem dX10_streetWeek_110 : decode cX10_streetWeek 110 = .ok (.getfield 25, 3) := by decide +kernel
theorem dX10_streetWeek_113 : decode cX10_streetWeek 113 = .ok (.iload_n 1, 1) := by decide +kernel
theorem dX10_streetWeek_114 : decode cX10_streetWeek 114 = .ok (.iaload, 1) := by decide +kernel
theorem dX10_streetWeek_115 : decode cX10_streetWeek 115 = .ok (.iconst 1, 1) := by decide +kernel
theorem dX10_streetWeek_116 : decode cX10_streetWeek 116 = .ok (.if_icmp .eq 9, 3) := by decide +kernel
theorem dX10_streetWeek_119 : decode cX10_streetWeek 119 = .ok (.iload 4, 2) := by decide +kernel
theorem dX10_streetWeek_121 : decode cX10_streetWeek 121 = .ok (.iload_n 2, 1) := by decide +kernel
theorem dX10_streetWeek_122 : decode cX10_streetWeek 122 = .ok (.if_icmp .ne 12, 3) := by decide +kernel
theorem dX10_streetWeek_125 : decode cX10_streetWeek 125 = .ok (.aload_n 0, 1) := by decide +kernel
theorem dX10_streetWeek_126 : decode cX10_streetWeek 126 = .ok (.getfield 28, 3) := by decide +kernel
theorem dX10_streetWeek_129 : decode cX10_streetWeek 129 = .ok (.iload_n 1, 1) := by decide +kernel
theorem dX10_streetWeek_130 : decode cX10_streetWeek 130 = .ok (.iaload, 1) := by decide +kernel
theorem dX10_streetWeek_131 : decode cX10_streetWeek 131 = .ok (.goto 4, 3) := by decide +kernel
theorem dX10_streetWeek_134 : decode cX10_streetWeek 134 = .ok (.iconst 0, 1) := by decide +kernel
theorem dX10_streetWeek_135 : decode cX10_streetWeek 135 = .ok (.istore 6, 2) := by decide +kernel
theorem dX10_streetWeek_137 : decode cX10_streetWeek 137 = .ok (.aload_n 0, 1) := by decide +kernel
theorem dX10_streetWeek_138 : decode cX10_streetWeek 138 = .ok (.getfield 67, 3) := by decide +kernel
theorem dX10_streetWeek_141 : decode cX10_streetWeek 141 = .ok (.iload_n 1, 1) := by decide +kernel
theorem dX10_streetWeek_142 : decode cX10_streetWeek 142 = .ok (.dup2, 1) := by decide +kernel
theorem dX10_streetWeek_143 : decode cX10_streetWeek 143 = .ok (.iaload, 1) := by decide +kernel
theorem dX10_streetWeek_144 : decode cX10_streetWeek 144 = .ok (.iload 6, 2) := by decide +kernel
theorem dX10_streetWeek_146 : decode cX10_streetWeek 146 = .ok (.iadd, 1) := by decide +kernel
theorem dX10_streetWeek_147 : decode cX10_streetWeek 147 = .ok (.iastore, 1) := by decide +kernel
theorem dX10_streetWeek_148 : decode cX10_streetWeek 148 = .ok (.aload_n 0, 1) := by decide +kernel
theorem dX10_streetWeek_149 : decode cX10_streetWeek 149 = .ok (.getfield 70, 3) := by decide +kernel
theorem dX10_streetWeek_152 : decode cX10_streetWeek 152 = .ok (.iload_n 1, 1) := by decide +kernel
theorem dX10_streetWeek_153 : decode cX10_streetWeek 153 = .ok (.dup2, 1) := by decide +kernel
theorem dX10_streetWeek_154 : decode cX10_streetWeek 154 = .ok (.iaload, 1) := by decide +kernel
theorem dX10_streetWeek_155 : decode cX10_streetWeek 155 = .ok (.iload 5, 2) := by decide +kernel
theorem dX10_streetWeek_157 : decode cX10_streetWeek 157 = .ok (.ifCond .eq 18, 3) := by decide +kernel
theorem dX10_streetWeek_160 : decode cX10_streetWeek 160 = .ok (.aload_n 0, 1) := by decide +kernel
theorem dX10_streetWeek_161 : decode cX10_streetWeek 161 = .ok (.aload_n 0, 1) := by decide +kernel
theorem dX10_streetWeek_162 : decode cX10_streetWeek 162 = .ok (.getfield 37, 3) := by decide +kernel
theorem dX10_streetWeek_165 : decode cX10_streetWeek 165 = .ok (.iload 4, 2) := by decide +kernel
theorem dX10_streetWeek_167 : decode cX10_streetWeek 167 = .ok (.iaload, 1) := by decide +kernel
theorem dX10_streetWeek_168 : decode cX10_streetWeek 168 = .ok (.iload_n 1, 1) := by decide +kernel
theorem dX10_streetWeek_169 : decode cX10_streetWeek 169 = .ok (.invokevirtual 212, 3) := by decide +kernel
theorem dX10_streetWeek_172 : decode cX10_streetWeek 172 = .ok (.goto 4, 3) := by decide +kernel
theorem dX10_streetWeek_175 : decode cX10_streetWeek 175 = .ok (.iconst 0, 1) := by decide +kernel
theorem dX10_streetWeek_176 : decode cX10_streetWeek 176 = .ok (.iadd, 1) := by decide +kernel
theorem dX10_streetWeek_177 : decode cX10_streetWeek 177 = .ok (.iastore, 1) := by decide +kernel
theorem dX10_streetWeek_178 : decode cX10_streetWeek 178 = .ok (.aload_n 0, 1) := by decide +kernel
theorem dX10_streetWeek_179 : decode cX10_streetWeek 179 = .ok (.getfield 73, 3) := by decide +kernel
theorem dX10_streetWeek_182 : decode cX10_streetWeek 182 = .ok (.iload 4, 2) := by decide +kernel
theorem dX10_streetWeek_184 : decode cX10_streetWeek 184 = .ok (.dup2, 1) := by decide +kernel
theorem dX10_streetWeek_185 : decode cX10_streetWeek 185 = .ok (.iaload, 1) := by decide +kernel
theorem dX10_streetWeek_186 : decode cX10_streetWeek 186 = .ok (.iload 5, 2) := by decide +kernel
theorem dX10_streetWeek_188 : decode cX10_streetWeek 188 = .ok (.ifCond .eq 11, 3) := by decide +kernel
theorem dX10_streetWeek_191 : decode cX10_streetWeek 191 = .ok (.aload_n 0, 1) := by decide +kernel
theorem dX10_streetWeek_192 : decode cX10_streetWeek 192 = .ok (.iload_n 1, 1) := by decide +kernel
theorem dX10_streetWeek_193 : decode cX10_streetWeek 193 = .ok (.invokevirtual 171, 3) := by decide +kernel
theorem dX10_streetWeek_196 : decode cX10_streetWeek 196 = .ok (.goto 4, 3) := by decide +kernel
theorem dX10_streetWeek_199 : decode cX10_streetWeek 199 = .ok (.iconst 0, 1) := by decide +kernel
theorem dX10_streetWeek_200 : decode cX10_streetWeek 200 = .ok (.iload 6, 2) := by decide +kernel
theorem dX10_streetWeek_202 : decode cX10_streetWeek 202 = .ok (.iadd, 1) := by decide +kernel
theorem dX10_streetWeek_203 : decode cX10_streetWeek 203 = .ok (.aload_n 0, 1) := by decide +kernel
theorem dX10_streetWeek_204 : decode cX10_streetWeek 204 = .ok (.getfield 40, 3) := by decide +kernel
theorem dX10_streetWeek_207 : decode cX10_streetWeek 207 = .ok (.iload 4, 2) := by decide +kernel
theorem dX10_streetWeek_209 : decode cX10_streetWeek 209 = .ok (.iaload, 1) := by decide +kernel
theorem dX10_streetWeek_210 : decode cX10_streetWeek 210 = .ok (.isub, 1) := by decide +kernel
theorem dX10_streetWeek_211 : decode cX10_streetWeek 211 = .ok (.iadd, 1) := by decide +kernel
theorem dX10_streetWeek_212 : decode cX10_streetWeek 212 = .ok (.iastore, 1) := by decide +kernel
theorem dX10_streetWeek_213 : decode cX10_streetWeek 213 = .ok (.iinc 4 1, 3) := by decide +kernel
theorem dX10_streetWeek_216 : decode cX10_streetWeek 216 = .ok (.goto (-174), 3) := by decide +kernel
theorem dX10_streetWeek_219 : decode cX10_streetWeek 219 = .ok (.aload_n 0, 1) := by decide +kernel
theorem dX10_streetWeek_220 : decode cX10_streetWeek 220 = .ok (.getfield 70, 3) := by decide +kernel
theorem dX10_streetWeek_223 : decode cX10_streetWeek 223 = .ok (.iload_n 1, 1) := by decide +kernel
theorem dX10_streetWeek_224 : decode cX10_streetWeek 224 = .ok (.dup2, 1) := by decide +kernel
theorem dX10_streetWeek_225 : decode cX10_streetWeek 225 = .ok (.iaload, 1) := by decide +kernel
theorem dX10_streetWeek_226 : decode cX10_streetWeek 226 = .ok (.aload_n 0, 1) := by decide +kernel
theorem dX10_streetWeek_227 : decode cX10_streetWeek 227 = .ok (.getfield 67, 3) := by decide +kernel
theorem dX10_streetWeek_230 : decode cX10_streetWeek 230 = .ok (.iload_n 1, 1) := by decide +kernel
theorem dX10_streetWeek_231 : decode cX10_streetWeek 231 = .ok (.iaload, 1) := by decide +kernel
theorem dX10_streetWeek_232 : decode cX10_streetWeek 232 = .ok (.aload_n 0, 1) := by decide +kernel
theorem dX10_streetWeek_233 : decode cX10_streetWeek 233 = .ok (.getfield 25, 3) := by decide +kernel
theorem dX10_streetWeek_236 : decode cX10_streetWeek 236 = .ok (.iload_n 1, 1) := by decide +kernel
theorem dX10_streetWeek_237 : decode cX10_streetWeek 237 = .ok (.iaload, 1) := by decide +kernel
theorem dX10_streetWeek_238 : decode cX10_streetWeek 238 = .ok (.iconst 3, 1) := by decide +kernel
theorem dX10_streetWeek_239 : decode cX10_streetWeek 239 = .ok (.if_icmp .ne 14, 3) := by decide +kernel
theorem dX10_streetWeek_242 : decode cX10_streetWeek 242 = .ok (.aload_n 0, 1) := by decide +kernel
theorem dX10_streetWeek_243 : decode cX10_streetWeek 243 = .ok (.getfield 22, 3) := by decide +kernel
theorem dX10_streetWeek_246 : decode cX10_streetWeek 246 = .ok (.iload_n 1, 1) := by decide +kernel
theorem dX10_streetWeek_247 : decode cX10_streetWeek 247 = .ok (.iaload, 1) := by decide +kernel
theorem dX10_streetWeek_248 : decode cX10_streetWeek 248 = .ok (.iload_n 3, 1) := by decide +kernel
theorem dX10_streetWeek_249 : decode cX10_streetWeek 249 = .ok (.imul, 1) := by decide +kernel
theorem dX10_streetWeek_250 : decode cX10_streetWeek 250 = .ok (.goto 4, 3) := by decide +kernel
theorem dX10_streetWeek_253 : decode cX10_streetWeek 253 = .ok (.iconst 0, 1) := by decide +kernel
theorem dX10_streetWeek_254 : decode cX10_streetWeek 254 = .ok (.iadd, 1) := by decide +kernel
theorem dX10_streetWeek_255 : decode cX10_streetWeek 255 = .ok (.iadd, 1) := by decide +kernel
theorem dX10_streetWeek_256 : decode cX10_streetWeek 256 = .ok (.iastore, 1) := by decide +kernel
theorem dX10_streetWeek_257 : decode cX10_streetWeek 257 = .ok (.return_, 1) := by decide +kernel
theorem dX10_goesWeeks_0 : decode cX10_goesWeeks 0 = .ok (.iconst 0, 1) := by decide +kernel
theorem dX10_goesWeeks_1 : decode cX10_goesWeeks 1 = .ok (.istore_n 2, 1) := by decide +kernel
theorem dX10_goesWeeks_2 : decode cX10_goesWeeks 2 = .ok (.iload_n 2, 1) := by decide +kernel
theorem dX10_goesWeeks_3 : decode cX10_goesWeeks 3 = .ok (.aload_n 0, 1) := by decide +kernel
theorem dX10_goesWeeks_4 : decode cX10_goesWeeks 4 = .ok (.getfield 127, 3) := by decide +kernel
theorem dX10_goesWeeks_7 : decode cX10_goesWeeks 7 = .ok (.if_icmp .ge 28, 3) := by decide +kernel
theorem dX10_goesWeeks_10 : decode cX10_goesWeeks 10 = .ok (.aload_n 0, 1) := by decide +kernel
theorem dX10_goesWeeks_11 : decode cX10_goesWeeks 11 = .ok (.getfield 58, 3) := by decide +kernel
theorem dX10_goesWeeks_14 : decode cX10_goesWeeks 14 = .ok (.iload_n 2, 1) := by decide +kernel
theorem dX10_goesWeeks_15 : decode cX10_goesWeeks 15 = .ok (.aload_n 0, 1) := by decide +kernel
theorem dX10_goesWeeks_16 : decode cX10_goesWeeks 16 = .ok (.getfield 46, 3) := by decide +kernel
theorem dX10_goesWeeks_19 : decode cX10_goesWeeks 19 = .ok (.iload_n 2, 1) := by decide +kernel
theorem dX10_goesWeeks_20 : decode cX10_goesWeeks 20 = .ok (.iaload, 1) := by decide +kernel
theorem dX10_goesWeeks_21 : decode cX10_goesWeeks 21 = .ok (.iastore, 1) := by decide +kernel
theorem dX10_goesWeeks_22 : decode cX10_goesWeeks 22 = .ok (.aload_n 0, 1) := by decide +kernel
theorem dX10_goesWeeks_23 : decode cX10_goesWeeks 23 = .ok (.getfield 73, 3) := by decide +kernel
theorem dX10_goesWeeks_26 : decode cX10_goesWeeks 26 = .ok (.iload_n 2, 1) := by decide +kernel
theorem dX10_goesWeeks_27 : decode cX10_goesWeeks 27 = .ok (.iconst 0, 1) := by decide +kernel
theorem dX10_goesWeeks_28 : decode cX10_goesWeeks 28 = .ok (.iastore, 1) := by decide +kernel
theorem dX10_goesWeeks_29 : decode cX10_goesWeeks 29 = .ok (.iinc 2 1, 3) := by decide +kernel
theorem dX10_goesWeeks_32 : decode cX10_goesWeeks 32 = .ok (.goto (-30), 3) := by decide +kernel
theorem dX10_goesWeeks_35 : decode cX10_goesWeeks 35 = .ok (.iconst 0, 1) := by decide +kernel
theorem dX10_goesWeeks_36 : decode cX10_goesWeeks 36 = .ok (.istore_n 2, 1) := by decide +kernel
theorem dX10_goesWeeks_37 : decode cX10_goesWeeks 37 = .ok (.iload_n 2, 1) := by decide +kernel
theorem dX10_goesWeeks_38 : decode cX10_goesWeeks 38 = .ok (.aload_n 0, 1) := by decide +kernel
theorem dX10_goesWeeks_39 : decode cX10_goesWeeks 39 = .ok (.getfield 117, 3) := by decide +kernel
theorem dX10_goesWeeks_42 : decode cX10_goesWeeks 42 = .ok (.if_icmp .ge 23, 3) := by decide +kernel
theorem dX10_goesWeeks_45 : decode cX10_goesWeeks 45 = .ok (.aload_n 0, 1) := by decide +kernel
theorem dX10_goesWeeks_46 : decode cX10_goesWeeks 46 = .ok (.getfield 67, 3) := by decide +kernel
theorem dX10_goesWeeks_49 : decode cX10_goesWeeks 49 = .ok (.iload_n 2, 1) := by decide +kernel
theorem dX10_goesWeeks_50 : decode cX10_goesWeeks 50 = .ok (.iconst 0, 1) := by decide +kernel
theorem dX10_goesWeeks_51 : decode cX10_goesWeeks 51 = .ok (.iastore, 1) := by decide +kernel
theorem dX10_goesWeeks_52 : decode cX10_goesWeeks 52 = .ok (.aload_n 0, 1) := by decide +kernel
theorem dX10_goesWeeks_53 : decode cX10_goesWeeks 53 = .ok (.getfield 70, 3) := by decide +kernel
theorem dX10_goesWeeks_56 : decode cX10_goesWeeks 56 = .ok (.iload_n 2, 1) := by decide +kernel
theorem dX10_goesWeeks_57 : decode cX10_goesWeeks 57 = .ok (.iconst 0, 1) := by decide +kernel
theorem dX10_goesWeeks_58 : decode cX10_goesWeeks 58 = .ok (.iastore, 1) := by decide +kernel
theorem dX10_goesWeeks_59 : decode cX10_goesWeeks 59 = .ok (.iinc 2 1, 3) := by decide +kernel
theorem dX10_goesWeeks_62 : decode cX10_goesWeeks 62 = .ok (.goto (-25), 3) := by decide +kernel
theorem dX10_goesWeeks_65 : decode cX10_goesWeeks 65 = .ok (.aload_n 0, 1) := by decide +kernel
theorem dX10_goesWeeks_66 : decode cX10_goesWeeks 66 = .ok (.invokevirtual 294, 3) := by decide +kernel
theorem dX10_goesWeeks_69 : decode cX10_goesWeeks 69 = .ok (.iconst 0, 1) := by decide +kernel
theorem dX10_goesWeeks_70 : decode cX10_goesWeeks 70 = .ok (.istore_n 2, 1) := by decide +kernel
theorem dX10_goesWeeks_71 : decode cX10_goesWeeks 71 = .ok (.iload_n 2, 1) := by decide +kernel
theorem dX10_goesWeeks_72 : decode cX10_goesWeeks 72 = .ok (.iload_n 1, 1) := by decide +kernel
theorem dX10_goesWeeks_73 : decode cX10_goesWeeks 73 = .ok (.if_icmp .ge 38, 3) := by decide +kernel
theorem dX10_goesWeeks_76 : decode cX10_goesWeeks 76 = .ok (.aload_n 0, 1) := by decide +kernel
theorem dX10_goesWeeks_77 : decode cX10_goesWeeks 77 = .ok (.invokevirtual 297, 3) := by decide +kernel
theorem dX10_goesWeeks_80 : decode cX10_goesWeeks 80 = .ok (.iconst 0, 1) := by decide +kernel
theorem dX10_goesWeeks_81 : decode cX10_goesWeeks 81 = .ok (.istore_n 3, 1) := by decide +kernel
theorem dX10_goesWeeks_82 : decode cX10_goesWeeks 82 = .ok (.iload_n 3, 1) := by decide +kernel
theorem dX10_goesWeeks_83 : decode cX10_goesWeeks 83 = .ok (.aload_n 0, 1) := by decide +kernel
theorem dX10_goesWeeks_84 : decode cX10_goesWeeks 84 = .ok (.getfield 117, 3) := by decide +kernel
theorem dX10_goesWeeks_87 : decode cX10_goesWeeks 87 = .ok (.if_icmp .ge 14, 3) := by decide +kernel
theorem dX10_goesWeeks_90 : decode cX10_goesWeeks 90 = .ok (.aload_n 0, 1) := by decide +kernel
theorem dX10_goesWeeks_91 : decode cX10_goesWeeks 91 = .ok (.iload_n 3, 1) := by decide +kernel
theorem dX10_goesWeeks_92 : decode cX10_goesWeeks 92 = .ok (.invokevirtual 300, 3) := by decide +kernel
theorem dX10_goesWeeks_95 : decode cX10_goesWeeks 95 = .ok (.iinc 3 1, 3) := by decide +kernel
theorem dX10_goesWeeks_98 : decode cX10_goesWeeks 98 = .ok (.goto (-16), 3) := by decide +kernel
theorem dX10_goesWeeks_101 : decode cX10_goesWeeks 101 = .ok (.aload_n 0, 1) := by decide +kernel
theorem dX10_goesWeeks_102 : decode cX10_goesWeeks 102 = .ok (.invokevirtual 294, 3) := by decide +kernel
theorem dX10_goesWeeks_105 : decode cX10_goesWeeks 105 = .ok (.iinc 2 1, 3) := by decide +kernel
theorem dX10_goesWeeks_108 : decode cX10_goesWeeks 108 = .ok (.goto (-37), 3) := by decide +kernel
theorem dX10_goesWeeks_111 : decode cX10_goesWeeks 111 = .ok (.return_, 1) := by decide +kernel
theorem dX10_areWeeks_0 : decode cX10_areWeeks 0 = .ok (.iload_n 0, 1) := by decide +kernel
theorem dX10_areWeeks_1 : decode cX10_areWeeks 1 = .ok (.i2l, 1) := by decide +kernel
theorem dX10_areWeeks_2 : decode cX10_areWeeks 2 = .ok (.lconst 1, 1) := by decide +kernel
theorem dX10_areWeeks_3 : decode cX10_areWeeks 3 = .ok (.ldc2_w 223, 3) := by decide +kernel
theorem dX10_areWeeks_6 : decode cX10_areWeeks 6 = .ok (.invokestatic 120, 3) := by decide +kernel
theorem dX10_areWeeks_9 : decode cX10_areWeeks 9 = .ok (.ireturn, 1) := by decide +kernel
theorem dX10_weeks_0 : decode cX10_weeks 0 = .ok (.iload_n 1, 1) := by decide +kernel
theorem dX10_weeks_1 : decode cX10_weeks 1 = .ok (.invokestatic 304, 3) := by decide +kernel
theorem dX10_weeks_4 : decode cX10_weeks 4 = .ok (.ifCond .eq 13, 3) := by decide +kernel
theorem dX10_weeks_7 : decode cX10_weeks 7 = .ok (.iload_n 2, 1) := by decide +kernel
theorem dX10_weeks_8 : decode cX10_weeks 8 = .ok (.i2l, 1) := by decide +kernel
theorem dX10_weeks_9 : decode cX10_weeks 9 = .ok (.lconst 0, 1) := by decide +kernel
theorem dX10_weeks_10 : decode cX10_weeks 10 = .ok (.lconst 1, 1) := by decide +kernel
theorem dX10_weeks_11 : decode cX10_weeks 11 = .ok (.invokestatic 120, 3) := by decide +kernel
theorem dX10_weeks_14 : decode cX10_weeks 14 = .ok (.ifCond .ne 5, 3) := by decide +kernel
theorem dX10_weeks_17 : decode cX10_weeks 17 = .ok (.iconst (-1), 1) := by decide +kernel
theorem dX10_weeks_18 : decode cX10_weeks 18 = .ok (.ireturn, 1) := by decide +kernel
theorem dX10_weeks_19 : decode cX10_weeks 19 = .ok (.aload_n 0, 1) := by decide +kernel
theorem dX10_weeks_20 : decode cX10_weeks 20 = .ok (.iload_n 1, 1) := by decide +kernel
theorem dX10_weeks_21 : decode cX10_weeks 21 = .ok (.invokevirtual 307, 3) := by decide +kernel
theorem dX10_weeks_24 : decode cX10_weeks 24 = .ok (.aload_n 0, 1) := by decide +kernel
theorem dX10_weeks_25 : decode cX10_weeks 25 = .ok (.aload_n 0, 1) := by decide +kernel
theorem dX10_weeks_26 : decode cX10_weeks 26 = .ok (.getfield 117, 3) := by decide +kernel
theorem dX10_weeks_29 : decode cX10_weeks 29 = .ok (.putfield 108, 3) := by decide +kernel
theorem dX10_weeks_32 : decode cX10_weeks 32 = .ok (.aload_n 0, 1) := by decide +kernel
theorem dX10_weeks_33 : decode cX10_weeks 33 = .ok (.aload_n 0, 1) := by decide +kernel
theorem dX10_weeks_34 : decode cX10_weeks 34 = .ok (.getfield 127, 3) := by decide +kernel
theorem dX10_weeks_37 : decode cX10_weeks 37 = .ok (.putfield 310, 3) := by decide +kernel
theorem dX10_weeks_40 : decode cX10_weeks 40 = .ok (.iconst 0, 1) := by decide +kernel
theorem dX10_weeks_41 : decode cX10_weeks 41 = .ok (.istore_n 3, 1) := by decide +kernel
theorem dX10_weeks_42 : decode cX10_weeks 42 = .ok (.iconst 0, 1) := by decide +kernel
theorem dX10_weeks_43 : decode cX10_weeks 43 = .ok (.istore 4, 2) := by decide +kernel
theorem dX10_weeks_45 : decode cX10_weeks 45 = .ok (.iload 4, 2) := by decide +kernel
theorem dX10_weeks_47 : decode cX10_weeks 47 = .ok (.aload_n 0, 1) := by decide +kernel
theorem dX10_weeks_48 : decode cX10_weeks 48 = .ok (.getfield 127, 3) := by decide +kernel
theorem dX10_weeks_51 : decode cX10_weeks 51 = .ok (.if_icmp .ge 84, 3) := by decide +kernel
theorem dX10_weeks_54 : decode cX10_weeks 54 = .ok (.aload_n 0, 1) := by decide +kernel
theorem dX10_weeks_55 : decode cX10_weeks 55 = .ok (.getfield 76, 3) := by decide +kernel
theorem dX10_weeks_58 : decode cX10_weeks 58 = .ok (.iload 4, 2) := by decide +kernel
theorem dX10_weeks_60 : decode cX10_weeks 60 = .ok (.aload_n 0, 1) := by decide +kernel
theorem dX10_weeks_61 : decode cX10_weeks 61 = .ok (.getfield 58, 3) := by decide +kernel
theorem dX10_weeks_64 : decode cX10_weeks 64 = .ok (.iload 4, 2) := by decide +kernel
theorem dX10_weeks_66 : decode cX10_weeks 66 = .ok (.iaload, 1) := by decide +kernel
theorem dX10_weeks_67 : decode cX10_weeks 67 = .ok (.iastore, 1) := by decide +kernel
theorem dX10_weeks_68 : decode cX10_weeks 68 = .ok (.aload_n 0, 1) := by decide +kernel
theorem dX10_weeks_69 : decode cX10_weeks 69 = .ok (.getfield 79, 3) := by decide +kernel
theorem dX10_weeks_72 : decode cX10_weeks 72 = .ok (.iload 4, 2) := by decide +kernel
theorem dX10_weeks_74 : decode cX10_weeks 74 = .ok (.aload_n 0, 1) := by decide +kernel
theorem dX10_weeks_75 : decode cX10_weeks 75 = .ok (.getfield 73, 3) := by decide +kernel
theorem dX10_weeks_78 : decode cX10_weeks 78 = .ok (.iload 4, 2) := by decide +kernel
theorem dX10_weeks_80 : decode cX10_weeks 80 = .ok (.iaload, 1) := by decide +kernel
theorem dX10_weeks_81 : decode cX10_weeks 81 = .ok (.iastore, 1) := by decide +kernel
theorem dX10_weeks_82 : decode cX10_weeks 82 = .ok (.aload_n 0, 1) := by decide +kernel
theorem dX10_weeks_83 : decode cX10_weeks 83 = .ok (.getfield 46, 3) := by decide +kernel
theorem dX10_weeks_86 : decode cX10_weeks 86 = .ok (.iload 4, 2) := by decide +kernel
theorem dX10_weeks_88 : decode cX10_weeks 88 = .ok (.iload_n 2, 1) := by decide +kernel
theorem dX10_weeks_89 : decode cX10_weeks 89 = .ok (.iconst 1, 1) := by decide +kernel
theorem dX10_weeks_90 : decode cX10_weeks 90 = .ok (.if_icmp .ne 13, 3) := by decide +kernel
theorem dX10_weeks_93 : decode cX10_weeks 93 = .ok (.aload_n 0, 1) := by decide +kernel
theorem dX10_weeks_94 : decode cX10_weeks 94 = .ok (.getfield 58, 3) := by decide +kernel
theorem dX10_weeks_97 : decode cX10_weeks 97 = .ok (.iload 4, 2) := by decide +kernel
theorem dX10_weeks_99 : decode cX10_weeks 99 = .ok (.iaload, 1) := by decide +kernel
theorem dX10_weeks_100 : decode cX10_weeks 100 = .ok (.goto 10, 3) := by decide +kernel
theorem dX10_weeks_103 : decode cX10_weeks 103 = .ok (.aload_n 0, 1) := by decide +kernel
theorem dX10_weeks_104 : decode cX10_weeks 104 = .ok (.getfield 46, 3) := by decide +kernel
theorem dX10_weeks_107 : decode cX10_weeks 107 = .ok (.iload 4, 2) := by decide +kernel
theorem dX10_weeks_109 : decode cX10_weeks 109 = .ok (.iaload, 1) := by decide +kernel
theorem dX10_weeks_110 : decode cX10_weeks 110 = .ok (.iastore, 1) := by decide +kernel
theorem dX10_weeks_111 : decode cX10_weeks 111 = .ok (.iload_n 3, 1) := by decide +kernel
theorem dX10_weeks_112 : decode cX10_weeks 112 = .ok (.aload_n 0, 1) := by decide +kernel
theorem dX10_weeks_113 : decode cX10_weeks 113 = .ok (.getfield 58, 3) := by decide +kernel
theorem dX10_weeks_116 : decode cX10_weeks 116 = .ok (.iload 4, 2) := by decide +kernel
theorem dX10_weeks_118 : decode cX10_weeks 118 = .ok (.iaload, 1) := by decide +kernel
theorem dX10_weeks_119 : decode cX10_weeks 119 = .ok (.ifCond .lt 7, 3) := by decide +kernel
theorem dX10_weeks_122 : decode cX10_weeks 122 = .ok (.iconst 1, 1) := by decide +kernel
theorem dX10_weeks_123 : decode cX10_weeks 123 = .ok (.goto 4, 3) := by decide +kernel
theorem dX10_weeks_126 : decode cX10_weeks 126 = .ok (.iconst 0, 1) := by decide +kernel
theorem dX10_weeks_127 : decode cX10_weeks 127 = .ok (.iadd, 1) := by decide +kernel
theorem dX10_weeks_128 : decode cX10_weeks 128 = .ok (.istore_n 3, 1) := by decide +kernel
theorem dX10_weeks_129 : decode cX10_weeks 129 = .ok (.iinc 4 1, 3) := by decide +kernel
theorem dX10_weeks_132 : decode cX10_weeks 132 = .ok (.goto (-87), 3) := by decide +kernel
theorem dX10_weeks_135 : decode cX10_weeks 135 = .ok (.iconst 0, 1) := by decide +kernel
theorem dX10_weeks_136 : decode cX10_weeks 136 = .ok (.istore 4, 2) := by decide +kernel
theorem dX10_weeks_138 : decode cX10_weeks 138 = .ok (.iload 4, 2) := by decide +kernel
theorem dX10_weeks_140 : decode cX10_weeks 140 = .ok (.aload_n 0, 1) := by decide +kernel
theorem dX10_weeks_141 : decode cX10_weeks 141 = .ok (.getfield 117, 3) := by decide +kernel
theorem dX10_weeks_144 : decode cX10_weeks 144 = .ok (.if_icmp .ge 23, 3) := by decide +kernel
theorem dX10_weeks_147 : decode cX10_weeks 147 = .ok (.aload_n 0, 1) := by decide +kernel
theorem dX10_weeks_148 : decode cX10_weeks 148 = .ok (.getfield 82, 3) := by decide +kernel
