theorem dX2_intersection_73 : decode cX2_intersection 73 = .ok (.aload_n 2, 1) := by decide +kernel
theorem dX2_intersection_74 : decode cX2_intersection 74 = .ok (.getfield 100, 3) := by decide +kernel
theorem dX2_intersection_77 : decode cX2_intersection 77 = .ok (.imul, 1) := by decide +kernel
theorem dX2_intersection_78 : decode cX2_intersection 78 = .ok (.aload_n 2, 1) := by decide +kernel
theorem dX2_intersection_79 : decode cX2_intersection 79 = .ok (.getfield 64, 3) := by decide +kernel
theorem dX2_intersection_82 : decode cX2_intersection 82 = .ok (.aload_n 3, 1) := by decide +kernel
theorem dX2_intersection_83 : decode cX2_intersection 83 = .ok (.getfield 100, 3) := by decide +kernel
theorem dX2_intersection_86 : decode cX2_intersection 86 = .ok (.imul, 1) := by decide +kernel
theorem dX2_intersection_87 : decode cX2_intersection 87 = .ok (.isub, 1) := by decide +kernel
theorem dX2_intersection_88 : decode cX2_intersection 88 = .ok (.iload 4, 2) := by decide +kernel
theorem dX2_intersection_90 : decode cX2_intersection 90 = .ok (.invokevirtual 103, 3) := by decide +kernel
theorem dX2_intersection_93 : decode cX2_intersection 93 = .ok (.invokevirtual 37, 3) := by decide +kernel
theorem dX2_intersection_96 : decode cX2_intersection 96 = .ok (.ireturn, 1) := by decide +kernel
set_option maxRecDepth 20000 in
theorem ggX2_lineAndCircle_X3_rest : GoodIn wsX2_lineAndCircle wsX3_rest := goodIn_r _ [10, 11, 12, 13, 14, 15, 63, 64, 65] rfl (by decide +kernel)
set_option maxRecDepth 20000 in
theorem gX2_lineAndCircle_X3_rest : GoodIn wsX2_lineAndCircle (wsV RX2 89 RX3 yX3_rest wsX3_rest) := goodIn_app (goodIn_of _ (by decide +kernel)) ggX2_lineAndCircle_X3_rest
set_option maxRecDepth 20000 in
theorem ggX2_lineAndCircle_X2_power : GoodIn wsX2_lineAndCircle wsX2_power := goodIn_r _ [20, 3, 1, 2, 4, 6, 7, 8, 9, 10, 11, 12, 13, 14, 15, 61, 62, 48, 49, 50, 51, 52, 53, 54, 55, 56, 57, 58, 59, 60, 63, 64, 65] rfl (by decide +kernel)
set_option maxRecDepth 20000 in
theorem gX2_lineAndCircle_X2_power : GoodIn wsX2_lineAndCircle (wsV RX2 107 RX2 yX2_power wsX2_power) := goodIn_app (goodIn_of _ (by decide +kernel)) ggX2_lineAndCircle_X2_power
set_option maxRecDepth 20000 in
theorem ggX2_lineAndCircle_X3_rootOf : GoodIn wsX2_lineAndCircle wsX3_rootOf := goodIn_r _ [24, 25, 26, 7, 8, 9, 10, 11, 12, 13, 14, 15, 63, 64, 65] rfl (by decide +kernel)
set_option maxRecDepth 20000 in
theorem gX2_lineAndCircle_X3_rootOf : GoodIn wsX2_lineAndCircle (wsV RX2 110 RX3 yX3_rootOf wsX3_rootOf) := goodIn_app (goodIn_of _ (by decide +kernel)) ggX2_lineAndCircle_X3_rootOf
set_option maxRecDepth 20000 in
theorem ggX2_lineAndCircle_X3_ratio : GoodIn wsX2_lineAndCircle wsX3_ratio := goodIn_r _ [30, 26, 7, 8, 9, 10, 11, 12, 13, 14, 15, 31, 32, 33, 34, 35, 63, 64, 65] rfl (by decide +kernel)
set_option maxRecDepth 20000 in
theorem gX2_lineAndCircle_X3_ratio : GoodIn wsX2_lineAndCircle (wsV RX2 103 RX3 yX3_ratio wsX3_ratio) := goodIn_app (goodIn_of _ (by decide +kernel)) ggX2_lineAndCircle_X3_ratio
set_option maxRecDepth 20000 in
theorem ggX2_lineAndCircle_X2_putPoint : GoodIn wsX2_lineAndCircle wsX2_putPoint := goodIn_r _ [39, 3, 6, 7, 8, 9, 10, 11, 12, 13, 14, 15, 40, 41, 42, 43, 44, 45, 46, 47, 61, 62, 63, 64, 65, 48, 49, 50, 51, 52, 53, 54, 55, 56, 57, 58, 59, 60] rfl (by decide +kernel)
set_option maxRecDepth 20000 in
theorem gX2_lineAndCircle_X2_putPoint : GoodIn wsX2_lineAndCircle (wsV RX2 37 RX2 yX2_putPoint wsX2_putPoint) := goodIn_app (goodIn_of _ (by decide +kernel)) ggX2_lineAndCircle_X2_putPoint
theorem dX2_lineAndCircle_0 : decode cX2_lineAndCircle 0 = .ok (.aload_n 2, 1) := by decide +kernel
theorem dX2_lineAndCircle_1 : decode cX2_lineAndCircle 1 = .ok (.getfield 64, 3) := by decide +kernel
theorem dX2_lineAndCircle_4 : decode cX2_lineAndCircle 4 = .ok (.istore 4, 2) := by decide +kernel
theorem dX2_lineAndCircle_6 : decode cX2_lineAndCircle 6 = .ok (.aload_n 2, 1) := by decide +kernel
theorem dX2_lineAndCircle_7 : decode cX2_lineAndCircle 7 = .ok (.getfield 67, 3) := by decide +kernel
theorem dX2_lineAndCircle_10 : decode cX2_lineAndCircle 10 = .ok (.istore 5, 2) := by decide +kernel
theorem dX2_lineAndCircle_12 : decode cX2_lineAndCircle 12 = .ok (.aload_n 0, 1) := by decide +kernel
theorem dX2_lineAndCircle_13 : decode cX2_lineAndCircle 13 = .ok (.getfield 12, 3) := by decide +kernel
theorem dX2_lineAndCircle_16 : decode cX2_lineAndCircle 16 = .ok (.iload 4, 2) := by decide +kernel
theorem dX2_lineAndCircle_18 : decode cX2_lineAndCircle 18 = .ok (.iload 4, 2) := by decide +kernel
theorem dX2_lineAndCircle_20 : decode cX2_lineAndCircle 20 = .ok (.imul, 1) := by decide +kernel
theorem dX2_lineAndCircle_21 : decode cX2_lineAndCircle 21 = .ok (.iload 5, 2) := by decide +kernel
theorem dX2_lineAndCircle_23 : decode cX2_lineAndCircle 23 = .ok (.iload 5, 2) := by decide +kernel
theorem dX2_lineAndCircle_25 : decode cX2_lineAndCircle 25 = .ok (.imul, 1) := by decide +kernel
theorem dX2_lineAndCircle_26 : decode cX2_lineAndCircle 26 = .ok (.iadd, 1) := by decide +kernel
theorem dX2_lineAndCircle_27 : decode cX2_lineAndCircle 27 = .ok (.invokevirtual 89, 3) := by decide +kernel
theorem dX2_lineAndCircle_30 : decode cX2_lineAndCircle 30 = .ok (.istore 6, 2) := by decide +kernel
theorem dX2_lineAndCircle_32 : decode cX2_lineAndCircle 32 = .ok (.aload_n 0, 1) := by decide +kernel
theorem dX2_lineAndCircle_33 : decode cX2_lineAndCircle 33 = .ok (.aload_n 3, 1) := by decide +kernel
theorem dX2_lineAndCircle_34 : decode cX2_lineAndCircle 34 = .ok (.aload_n 2, 1) := by decide +kernel
theorem dX2_lineAndCircle_35 : decode cX2_lineAndCircle 35 = .ok (.invokevirtual 107, 3) := by decide +kernel
theorem dX2_lineAndCircle_38 : decode cX2_lineAndCircle 38 = .ok (.istore 7, 2) := by decide +kernel
theorem dX2_lineAndCircle_40 : decode cX2_lineAndCircle 40 = .ok (.aload_n 0, 1) := by decide +kernel
theorem dX2_lineAndCircle_41 : decode cX2_lineAndCircle 41 = .ok (.getfield 12, 3) := by decide +kernel
theorem dX2_lineAndCircle_44 : decode cX2_lineAndCircle 44 = .ok (.aload_n 3, 1) := by decide +kernel
theorem dX2_lineAndCircle_45 : decode cX2_lineAndCircle 45 = .ok (.getfield 100, 3) := by decide +kernel
theorem dX2_lineAndCircle_48 : decode cX2_lineAndCircle 48 = .ok (.iload 6, 2) := by decide +kernel
theorem dX2_lineAndCircle_50 : decode cX2_lineAndCircle 50 = .ok (.imul, 1) := by decide +kernel
theorem dX2_lineAndCircle_51 : decode cX2_lineAndCircle 51 = .ok (.iload 7, 2) := by decide +kernel
theorem dX2_lineAndCircle_53 : decode cX2_lineAndCircle 53 = .ok (.iload 7, 2) := by decide +kernel
theorem dX2_lineAndCircle_55 : decode cX2_lineAndCircle 55 = .ok (.imul, 1) := by decide +kernel
theorem dX2_lineAndCircle_56 : decode cX2_lineAndCircle 56 = .ok (.isub, 1) := by decide +kernel
theorem dX2_lineAndCircle_57 : decode cX2_lineAndCircle 57 = .ok (.invokevirtual 110, 3) := by decide +kernel
theorem dX2_lineAndCircle_60 : decode cX2_lineAndCircle 60 = .ok (.istore 8, 2) := by decide +kernel
theorem dX2_lineAndCircle_62 : decode cX2_lineAndCircle 62 = .ok (.iload 6, 2) := by decide +kernel
theorem dX2_lineAndCircle_64 : decode cX2_lineAndCircle 64 = .ok (.ifCond .eq 8, 3) := by decide +kernel
theorem dX2_lineAndCircle_67 : decode cX2_lineAndCircle 67 = .ok (.iload 8, 2) := by decide +kernel
theorem dX2_lineAndCircle_69 : decode cX2_lineAndCircle 69 = .ok (.ifCond .ge 5, 3) := by decide +kernel
theorem dX2_lineAndCircle_72 : decode cX2_lineAndCircle 72 = .ok (.iconst 0, 1) := by decide +kernel
theorem dX2_lineAndCircle_73 : decode cX2_lineAndCircle 73 = .ok (.ireturn, 1) := by decide +kernel
theorem dX2_lineAndCircle_74 : decode cX2_lineAndCircle 74 = .ok (.aload_n 0, 1) := by decide +kernel
theorem dX2_lineAndCircle_75 : decode cX2_lineAndCircle 75 = .ok (.getfield 12, 3) := by decide +kernel
theorem dX2_lineAndCircle_78 : decode cX2_lineAndCircle 78 = .ok (.aload_n 3, 1) := by decide +kernel
theorem dX2_lineAndCircle_79 : decode cX2_lineAndCircle 79 = .ok (.getfield 64, 3) := by decide +kernel
theorem dX2_lineAndCircle_82 : decode cX2_lineAndCircle 82 = .ok (.aload_n 0, 1) := by decide +kernel
theorem dX2_lineAndCircle_83 : decode cX2_lineAndCircle 83 = .ok (.getfield 12, 3) := by decide +kernel
theorem dX2_lineAndCircle_86 : decode cX2_lineAndCircle 86 = .ok (.iload 4, 2) := by decide +kernel
theorem dX2_lineAndCircle_88 : decode cX2_lineAndCircle 88 = .ok (.ineg, 1) := by decide +kernel
theorem dX2_lineAndCircle_89 : decode cX2_lineAndCircle 89 = .ok (.iload 7, 2) := by decide +kernel
theorem dX2_lineAndCircle_91 : decode cX2_lineAndCircle 91 = .ok (.imul, 1) := by decide +kernel
theorem dX2_lineAndCircle_92 : decode cX2_lineAndCircle 92 = .ok (.iload 5, 2) := by decide +kernel
theorem dX2_lineAndCircle_94 : decode cX2_lineAndCircle 94 = .ok (.iload 8, 2) := by decide +kernel
theorem dX2_lineAndCircle_96 : decode cX2_lineAndCircle 96 = .ok (.imul, 1) := by decide +kernel
theorem dX2_lineAndCircle_97 : decode cX2_lineAndCircle 97 = .ok (.isub, 1) := by decide +kernel
theorem dX2_lineAndCircle_98 : decode cX2_lineAndCircle 98 = .ok (.iload 6, 2) := by decide +kernel
theorem dX2_lineAndCircle_100 : decode cX2_lineAndCircle 100 = .ok (.invokevirtual 103, 3) := by decide +kernel
theorem dX2_lineAndCircle_103 : decode cX2_lineAndCircle 103 = .ok (.iadd, 1) := by decide +kernel
theorem dX2_lineAndCircle_104 : decode cX2_lineAndCircle 104 = .ok (.invokevirtual 89, 3) := by decide +kernel
theorem dX2_lineAndCircle_107 : decode cX2_lineAndCircle 107 = .ok (.istore 9, 2) := by decide +kernel
theorem dX2_lineAndCircle_109 : decode cX2_lineAndCircle 109 = .ok (.aload_n 0, 1) := by decide +kernel
theorem dX2_lineAndCircle_110 : decode cX2_lineAndCircle 110 = .ok (.getfield 12, 3) := by decide +kernel
theorem dX2_lineAndCircle_113 : decode cX2_lineAndCircle 113 = .ok (.aload_n 3, 1) := by decide +kernel
theorem dX2_lineAndCircle_114 : decode cX2_lineAndCircle 114 = .ok (.getfield 67, 3) := by decide +kernel
theorem dX2_lineAndCircle_117 : decode cX2_lineAndCircle 117 = .ok (.aload_n 0, 1) := by decide +kernel
theorem dX2_lineAndCircle_118 : decode cX2_lineAndCircle 118 = .ok (.getfield 12, 3) := by decide +kernel
theorem dX2_lineAndCircle_121 : decode cX2_lineAndCircle 121 = .ok (.iload 5, 2) := by decide +kernel
theorem dX2_lineAndCircle_123 : decode cX2_lineAndCircle 123 = .ok (.ineg, 1) := by decide +kernel
theorem dX2_lineAndCircle_124 : decode cX2_lineAndCircle 124 = .ok (.iload 7, 2) := by decide +kernel
theorem dX2_lineAndCircle_126 : decode cX2_lineAndCircle 126 = .ok (.imul, 1) := by decide +kernel
theorem dX2_lineAndCircle_127 : decode cX2_lineAndCircle 127 = .ok (.iload 4, 2) := by decide +kernel
theorem dX2_lineAndCircle_129 : decode cX2_lineAndCircle 129 = .ok (.iload 8, 2) := by decide +kernel
theorem dX2_lineAndCircle_131 : decode cX2_lineAndCircle 131 = .ok (.imul, 1) := by decide +kernel
theorem dX2_lineAndCircle_132 : decode cX2_lineAndCircle 132 = .ok (.iadd, 1) := by decide +kernel
theorem dX2_lineAndCircle_133 : decode cX2_lineAndCircle 133 = .ok (.iload 6, 2) := by decide +kernel
theorem dX2_lineAndCircle_135 : decode cX2_lineAndCircle 135 = .ok (.invokevirtual 103, 3) := by decide +kernel
theorem dX2_lineAndCircle_138 : decode cX2_lineAndCircle 138 = .ok (.iadd, 1) := by decide +kernel
theorem dX2_lineAndCircle_139 : decode cX2_lineAndCircle 139 = .ok (.invokevirtual 89, 3) := by decide +kernel
theorem dX2_lineAndCircle_142 : decode cX2_lineAndCircle 142 = .ok (.istore 10, 2) := by decide +kernel
theorem dX2_lineAndCircle_144 : decode cX2_lineAndCircle 144 = .ok (.aload_n 0, 1) := by decide +kernel
theorem dX2_lineAndCircle_145 : decode cX2_lineAndCircle 145 = .ok (.getfield 12, 3) := by decide +kernel
theorem dX2_lineAndCircle_148 : decode cX2_lineAndCircle 148 = .ok (.aload_n 3, 1) := by decide +kernel
theorem dX2_lineAndCircle_149 : decode cX2_lineAndCircle 149 = .ok (.getfield 64, 3) := by decide +kernel
theorem dX2_lineAndCircle_152 : decode cX2_lineAndCircle 152 = .ok (.aload_n 0, 1) := by decide +kernel
theorem dX2_lineAndCircle_153 : decode cX2_lineAndCircle 153 = .ok (.getfield 12, 3) := by decide +kernel
theorem dX2_lineAndCircle_156 : decode cX2_lineAndCircle 156 = .ok (.iload 4, 2) := by decide +kernel
theorem dX2_lineAndCircle_158 : decode cX2_lineAndCircle 158 = .ok (.ineg, 1) := by decide +kernel
theorem dX2_lineAndCircle_159 : decode cX2_lineAndCircle 159 = .ok (.iload 7, 2) := by decide +kernel
theorem dX2_lineAndCircle_161 : decode cX2_lineAndCircle 161 = .ok (.imul, 1) := by decide +kernel
theorem dX2_lineAndCircle_162 : decode cX2_lineAndCircle 162 = .ok (.iload 5, 2) := by decide +kernel
theorem dX2_lineAndCircle_164 : decode cX2_lineAndCircle 164 = .ok (.iload 8, 2) := by decide +kernel
theorem dX2_lineAndCircle_166 : decode cX2_lineAndCircle 166 = .ok (.imul, 1) := by decide +kernel
theorem dX2_lineAndCircle_167 : decode cX2_lineAndCircle 167 = .ok (.iadd, 1) := by decide +kernel
theorem dX2_lineAndCircle_168 : decode cX2_lineAndCircle 168 = .ok (.iload 6, 2) := by decide +kernel
theorem dX2_lineAndCircle_170 : decode cX2_lineAndCircle 170 = .ok (.invokevirtual 103, 3) := by decide +kernel
theorem dX2_lineAndCircle_173 : decode cX2_lineAndCircle 173 = .ok (.iadd, 1) := by decide +kernel
theorem dX2_lineAndCircle_174 : decode cX2_lineAndCircle 174 = .ok (.invokevirtual 89, 3) := by decide +kernel
theorem dX2_lineAndCircle_177 : decode cX2_lineAndCircle 177 = .ok (.istore 11, 2) := by decide +kernel
theorem dX2_lineAndCircle_179 : decode cX2_lineAndCircle 179 = .ok (.aload_n 0, 1) := by decide +kernel
theorem dX2_lineAndCircle_180 : decode cX2_lineAndCircle 180 = .ok (.getfield 12, 3) := by decide +kernel
theorem dX2_lineAndCircle_183 : decode cX2_lineAndCircle 183 = .ok (.aload_n 3, 1) := by decide +kernel
theorem dX2_lineAndCircle_184 : decode cX2_lineAndCircle 184 = .ok (.getfield 67, 3) := by decide +kernel
theorem dX2_lineAndCircle_187 : decode cX2_lineAndCircle 187 = .ok (.aload_n 0, 1) := by decide +kernel
theorem dX2_lineAndCircle_188 : decode cX2_lineAndCircle 188 = .ok (.getfield 12, 3) := by decide +kernel
theorem dX2_lineAndCircle_191 : decode cX2_lineAndCircle 191 = .ok (.iload 5, 2) := by decide +kernel
theorem dX2_lineAndCircle_193 : decode cX2_lineAndCircle 193 = .ok (.ineg, 1) := by decide +kernel
theorem dX2_lineAndCircle_194 : decode cX2_lineAndCircle 194 = .ok (.iload 7, 2) := by decide +kernel
theorem dX2_lineAndCircle_196 : decode cX2_lineAndCircle 196 = .ok (.imul, 1) := by decide +kernel
theorem dX2_lineAndCircle_197 : decode cX2_lineAndCircle 197 = .ok (.iload 4, 2) := by decide +kernel
theorem dX2_lineAndCircle_199 : decode cX2_lineAndCircle 199 = .ok (.iload 8, 2) := by decide +kernel
theorem dX2_lineAndCircle_201 : decode cX2_lineAndCircle 201 = .ok (.imul, 1) := by decide +kernel
theorem dX2_lineAndCircle_202 : decode cX2_lineAndCircle 202 = .ok (.isub, 1) := by decide +kernel
theorem dX2_lineAndCircle_203 : decode cX2_lineAndCircle 203 = .ok (.iload 6, 2) := by decide +kernel
theorem dX2_lineAndCircle_205 : decode cX2_lineAndCircle 205 = .ok (.invokevirtual 103, 3) := by decide +kernel
theorem dX2_lineAndCircle_208 : decode cX2_lineAndCircle 208 = .ok (.iadd, 1) := by decide +kernel
theorem dX2_lineAndCircle_209 : decode cX2_lineAndCircle 209 = .ok (.invokevirtual 89, 3) := by decide +kernel
theorem dX2_lineAndCircle_212 : decode cX2_lineAndCircle 212 = .ok (.istore 12, 2) := by decide +kernel
theorem dX2_lineAndCircle_214 : decode cX2_lineAndCircle 214 = .ok (.iload 9, 2) := by decide +kernel
theorem dX2_lineAndCircle_216 : decode cX2_lineAndCircle 216 = .ok (.iload 11, 2) := by decide +kernel
theorem dX2_lineAndCircle_218 : decode cX2_lineAndCircle 218 = .ok (.if_icmp .lt 17, 3) := by decide +kernel
theorem dX2_lineAndCircle_221 : decode cX2_lineAndCircle 221 = .ok (.iload 9, 2) := by decide +kernel
theorem dX2_lineAndCircle_223 : decode cX2_lineAndCircle 223 = .ok (.iload 11, 2) := by decide +kernel
theorem dX2_lineAndCircle_225 : decode cX2_lineAndCircle 225 = .ok (.if_icmp .ne 14, 3) := by decide +kernel
theorem dX2_lineAndCircle_228 : decode cX2_lineAndCircle 228 = .ok (.iload 10, 2) := by decide +kernel
theorem dX2_lineAndCircle_230 : decode cX2_lineAndCircle 230 = .ok (.iload 12, 2) := by decide +kernel
theorem dX2_lineAndCircle_232 : decode cX2_lineAndCircle 232 = .ok (.if_icmp .gt 7, 3) := by decide +kernel
theorem dX2_lineAndCircle_235 : decode cX2_lineAndCircle 235 = .ok (.iconst 1, 1) := by decide +kernel
theorem dX2_lineAndCircle_236 : decode cX2_lineAndCircle 236 = .ok (.goto 4, 3) := by decide +kernel
theorem dX2_lineAndCircle_239 : decode cX2_lineAndCircle 239 = .ok (.iconst 0, 1) := by decide +kernel
theorem dX2_lineAndCircle_240 : decode cX2_lineAndCircle 240 = .ok (.istore 13, 2) := by decide +kernel
theorem dX2_lineAndCircle_242 : decode cX2_lineAndCircle 242 = .ok (.aload_n 1, 1) := by decide +kernel
theorem dX2_lineAndCircle_243 : decode cX2_lineAndCircle 243 = .ok (.getfield 27, 3) := by decide +kernel
theorem dX2_lineAndCircle_246 : decode cX2_lineAndCircle 246 = .ok (.iconst 3, 1) := by decide +kernel
theorem dX2_lineAndCircle_247 : decode cX2_lineAndCircle 247 = .ok (.if_icmp .eq 11, 3) := by decide +kernel
theorem dX2_lineAndCircle_250 : decode cX2_lineAndCircle 250 = .ok (.aload_n 1, 1) := by decide +kernel
theorem dX2_lineAndCircle_251 : decode cX2_lineAndCircle 251 = .ok (.getfield 27, 3) := by decide +kernel
theorem dX2_lineAndCircle_254 : decode cX2_lineAndCircle 254 = .ok (.iconst 5, 1) := by decide +kernel
theorem dX2_lineAndCircle_255 : decode cX2_lineAndCircle 255 = .ok (.if_icmp .ne 7, 3) := by decide +kernel
theorem dX2_lineAndCircle_258 : decode cX2_lineAndCircle 258 = .ok (.iconst 1, 1) := by decide +kernel
theorem dX2_lineAndCircle_259 : decode cX2_lineAndCircle 259 = .ok (.goto 4, 3) := by decide +kernel
theorem dX2_lineAndCircle_262 : decode cX2_lineAndCircle 262 = .ok (.iconst 0, 1) := by decide +kernel
theorem dX2_lineAndCircle_263 : decode cX2_lineAndCircle 263 = .ok (.istore 14, 2) := by decide +kernel
theorem dX2_lineAndCircle_265 : decode cX2_lineAndCircle 265 = .ok (.iload 13, 2) := by decide +kernel
theorem dX2_lineAndCircle_267 : decode cX2_lineAndCircle 267 = .ok (.iload 14, 2) := by decide +kernel
theorem dX2_lineAndCircle_269 : decode cX2_lineAndCircle 269 = .ok (.if_icmp .ne 15, 3) := by decide +kernel
theorem dX2_lineAndCircle_272 : decode cX2_lineAndCircle 272 = .ok (.aload_n 0, 1) := by decide +kernel
theorem dX2_lineAndCircle_273 : decode cX2_lineAndCircle 273 = .ok (.aload_n 1, 1) := by decide +kernel
theorem dX2_lineAndCircle_274 : decode cX2_lineAndCircle 274 = .ok (.iload 9, 2) := by decide +kernel
theorem dX2_lineAndCircle_276 : decode cX2_lineAndCircle 276 = .ok (.iload 10, 2) := by decide +kernel
theorem dX2_lineAndCircle_278 : decode cX2_lineAndCircle 278 = .ok (.invokevirtual 37, 3) := by decide +kernel
theorem dX2_lineAndCircle_281 : decode cX2_lineAndCircle 281 = .ok (.goto 12, 3) := by decide +kernel
theorem dX2_lineAndCircle_284 : decode cX2_lineAndCircle 284 = .ok (.aload_n 0, 1) := by decide +kernel
theorem dX2_lineAndCircle_285 : decode cX2_lineAndCircle 285 = .ok (.aload_n 1, 1) := by decide +kernel
theorem dX2_lineAndCircle_286 : decode cX2_lineAndCircle 286 = .ok (.iload 11, 2) := by decide +kernel
theorem dX2_lineAndCircle_288 : decode cX2_lineAndCircle 288 = .ok (.iload 12, 2) := by decide +kernel
theorem dX2_lineAndCircle_290 : decode cX2_lineAndCircle 290 = .ok (.invokevirtual 37, 3) := by decide +kernel
theorem dX2_lineAndCircle_293 : decode cX2_lineAndCircle 293 = .ok (.ireturn, 1) := by decide +kernel
set_option maxRecDepth 20000 in
theorem ggX2_equalPowers_X2_putLine : GoodIn wsX2_equalPowers wsX2_putLine := goodIn_r _ [8, 9, 10, 11, 12, 13, 14, 15, 16, 17, 18, 19, 20, 21, 22, 23, 24, 25, 26, 27, 28, 29, 30, 31, 32, 46, 47, 48, 49, 50, 33, 34, 35, 36, 37, 38, 39, 40, 41, 42, 43, 44, 45] rfl (by decide +kernel)
set_option maxRecDepth 20000 in
theorem gX2_equalPowers_X2_putLine : GoodIn wsX2_equalPowers (wsV RX2 113 RX2 yX2_putLine wsX2_putLine) := goodIn_app (goodIn_of _ (by decide +kernel)) ggX2_equalPowers_X2_putLine
theorem dX2_equalPowers_0 : decode cX2_equalPowers 0 = .ok (.aload_n 2, 1) := by decide +kernel
theorem dX2_equalPowers_1 : decode cX2_equalPowers 1 = .ok (.getfield 64, 3) := by decide +kernel
theorem dX2_equalPowers_4 : decode cX2_equalPowers 4 = .ok (.aload_n 2, 1) := by decide +kernel
theorem dX2_equalPowers_5 : decode cX2_equalPowers 5 = .ok (.getfield 64, 3) := by decide +kernel
theorem dX2_equalPowers_8 : decode cX2_equalPowers 8 = .ok (.imul, 1) := by decide +kernel
theorem dX2_equalPowers_9 : decode cX2_equalPowers 9 = .ok (.aload_n 2, 1) := by decide +kernel
theorem dX2_equalPowers_10 : decode cX2_equalPowers 10 = .ok (.getfield 67, 3) := by decide +kernel
theorem dX2_equalPowers_13 : decode cX2_equalPowers 13 = .ok (.aload_n 2, 1) := by decide +kernel
theorem dX2_equalPowers_14 : decode cX2_equalPowers 14 = .ok (.getfield 67, 3) := by decide +kernel
theorem dX2_equalPowers_17 : decode cX2_equalPowers 17 = .ok (.imul, 1) := by decide +kernel
theorem dX2_equalPowers_18 : decode cX2_equalPowers 18 = .ok (.iadd, 1) := by decide +kernel
theorem dX2_equalPowers_19 : decode cX2_equalPowers 19 = .ok (.aload_n 2, 1) := by decide +kernel
theorem dX2_equalPowers_20 : decode cX2_equalPowers 20 = .ok (.getfield 100, 3) := by decide +kernel
theorem dX2_equalPowers_23 : decode cX2_equalPowers 23 = .ok (.isub, 1) := by decide +kernel
theorem dX2_equalPowers_24 : decode cX2_equalPowers 24 = .ok (.aload_n 3, 1) := by decide +kernel
theorem dX2_equalPowers_25 : decode cX2_equalPowers 25 = .ok (.getfield 64, 3) := by decide +kernel
theorem dX2_equalPowers_28 : decode cX2_equalPowers 28 = .ok (.aload_n 3, 1) := by decide +kernel
theorem dX2_equalPowers_29 : decode cX2_equalPowers 29 = .ok (.getfield 64, 3) := by decide +kernel
theorem dX2_equalPowers_32 : decode cX2_equalPowers 32 = .ok (.imul, 1) := by decide +kernel
theorem dX2_equalPowers_33 : decode cX2_equalPowers 33 = .ok (.isub, 1) := by decide +kernel
theorem dX2_equalPowers_34 : decode cX2_equalPowers 34 = .ok (.aload_n 3, 1) := by decide +kernel
theorem dX2_equalPowers_35 : decode cX2_equalPowers 35 = .ok (.getfield 67, 3) := by decide +kernel
theorem dX2_equalPowers_38 : decode cX2_equalPowers 38 = .ok (.aload_n 3, 1) := by decide +kernel
theorem dX2_equalPowers_39 : decode cX2_equalPowers 39 = .ok (.getfield 67, 3) := by decide +kernel
theorem dX2_equalPowers_42 : decode cX2_equalPowers 42 = .ok (.imul, 1) := by decide +kernel
theorem dX2_equalPowers_43 : decode cX2_equalPowers 43 = .ok (.isub, 1) := by decide +kernel
theorem dX2_equalPowers_44 : decode cX2_equalPowers 44 = .ok (.aload_n 3, 1) := by decide +kernel
theorem dX2_equalPowers_45 : decode cX2_equalPowers 45 = .ok (.getfield 100, 3) := by decide +kernel
theorem dX2_equalPowers_48 : decode cX2_equalPowers 48 = .ok (.iadd, 1) := by decide +kernel
theorem dX2_equalPowers_49 : decode cX2_equalPowers 49 = .ok (.istore 4, 2) := by decide +kernel
theorem dX2_equalPowers_51 : decode cX2_equalPowers 51 = .ok (.aload_n 0, 1) := by decide +kernel
theorem dX2_equalPowers_52 : decode cX2_equalPowers 52 = .ok (.aload_n 1, 1) := by decide +kernel
theorem dX2_equalPowers_53 : decode cX2_equalPowers 53 = .ok (.iconst 2, 1) := by decide +kernel
theorem dX2_equalPowers_54 : decode cX2_equalPowers 54 = .ok (.aload_n 3, 1) := by decide +kernel
theorem dX2_equalPowers_55 : decode cX2_equalPowers 55 = .ok (.getfield 64, 3) := by decide +kernel
theorem dX2_equalPowers_58 : decode cX2_equalPowers 58 = .ok (.aload_n 2, 1) := by decide +kernel
theorem dX2_equalPowers_59 : decode cX2_equalPowers 59 = .ok (.getfield 64, 3) := by decide +kernel
theorem dX2_equalPowers_62 : decode cX2_equalPowers 62 = .ok (.isub, 1) := by decide +kernel
theorem dX2_equalPowers_63 : decode cX2_equalPowers 63 = .ok (.imul, 1) := by decide +kernel
theorem dX2_equalPowers_64 : decode cX2_equalPowers 64 = .ok (.iconst 2, 1) := by decide +kernel
theorem dX2_equalPowers_65 : decode cX2_equalPowers 65 = .ok (.aload_n 3, 1) := by decide +kernel
theorem dX2_equalPowers_66 : decode cX2_equalPowers 66 = .ok (.getfield 67, 3) := by decide +kernel
theorem dX2_equalPowers_69 : decode cX2_equalPowers 69 = .ok (.aload_n 2, 1) := by decide +kernel
theorem dX2_equalPowers_70 : decode cX2_equalPowers 70 = .ok (.getfield 67, 3) := by decide +kernel
theorem dX2_equalPowers_73 : decode cX2_equalPowers 73 = .ok (.isub, 1) := by decide +kernel
theorem dX2_equalPowers_74 : decode cX2_equalPowers 74 = .ok (.imul, 1) := by decide +kernel
theorem dX2_equalPowers_75 : decode cX2_equalPowers 75 = .ok (.iload 4, 2) := by decide +kernel
theorem dX2_equalPowers_77 : decode cX2_equalPowers 77 = .ok (.invokevirtual 113, 3) := by decide +kernel
theorem dX2_equalPowers_80 : decode cX2_equalPowers 80 = .ok (.ireturn, 1) := by decide +kernel
set_option maxRecDepth 20000 in
theorem ggX2_middle_X3_ratio : GoodIn wsX2_middle wsX3_ratio := goodIn_r _ [8, 9, 10, 11, 7, 12, 13, 14, 15, 16, 17, 18, 19, 20, 21, 22, 52, 53, 54] rfl (by decide +kernel)
set_option maxRecDepth 20000 in
theorem gX2_middle_X3_ratio : GoodIn wsX2_middle (wsV RX2 103 RX3 yX3_ratio wsX3_ratio) := goodIn_app (goodIn_of _ (by decide +kernel)) ggX2_middle_X3_ratio
set_option maxRecDepth 20000 in
theorem ggX2_middle_X2_putPoint : GoodIn wsX2_middle wsX2_putPoint := goodIn_r _ [27, 1, 28, 10, 11, 7, 12, 13, 14, 15, 16, 17, 29, 30, 31, 32, 33, 34, 35, 36, 37, 38, 52, 53, 54, 39, 40, 41, 42, 43, 44, 45, 46, 47, 48, 49, 50, 51] rfl (by decide +kernel)
set_option maxRecDepth 20000 in
theorem gX2_middle_X2_putPoint : GoodIn wsX2_middle (wsV RX2 37 RX2 yX2_putPoint wsX2_putPoint) := goodIn_app (goodIn_of _ (by decide +kernel)) ggX2_middle_X2_putPoint
theorem dX2_middle_0 : decode cX2_middle 0 = .ok (.aload_n 0, 1) := by decide +kernel
theorem dX2_middle_1 : decode cX2_middle 1 = .ok (.aload_n 1, 1) := by decide +kernel
theorem dX2_middle_2 : decode cX2_middle 2 = .ok (.aload_n 0, 1) := by decide +kernel
theorem dX2_middle_3 : decode cX2_middle 3 = .ok (.getfield 12, 3) := by decide +kernel
theorem dX2_middle_6 : decode cX2_middle 6 = .ok (.aload_n 2, 1) := by decide +kernel
theorem dX2_middle_7 : decode cX2_middle 7 = .ok (.getfield 64, 3) := by decide +kernel
theorem dX2_middle_10 : decode cX2_middle 10 = .ok (.aload_n 3, 1) := by decide +kernel
theorem dX2_middle_11 : decode cX2_middle 11 = .ok (.getfield 64, 3) := by decide +kernel
theorem dX2_middle_14 : decode cX2_middle 14 = .ok (.iadd, 1) := by decide +kernel
theorem dX2_middle_15 : decode cX2_middle 15 = .ok (.iconst 2, 1) := by decide +kernel
theorem dX2_middle_16 : decode cX2_middle 16 = .ok (.invokevirtual 103, 3) := by decide +kernel
theorem dX2_middle_19 : decode cX2_middle 19 = .ok (.aload_n 0, 1) := by decide +kernel
theorem dX2_middle_20 : decode cX2_middle 20 = .ok (.getfield 12, 3) := by decide +kernel
theorem dX2_middle_23 : decode cX2_middle 23 = .ok (.aload_n 2, 1) := by decide +kernel
theorem dX2_middle_24 : decode cX2_middle 24 = .ok (.getfield 67, 3) := by decide +kernel
theorem dX2_middle_27 : decode cX2_middle 27 = .ok (.aload_n 3, 1) := by decide +kernel
theorem dX2_middle_28 : decode cX2_middle 28 = .ok (.getfield 67, 3) := by decide +kernel
theorem dX2_middle_31 : decode cX2_middle 31 = .ok (.iadd, 1) := by decide +kernel
theorem dX2_middle_32 : decode cX2_middle 32 = .ok (.iconst 2, 1) := by decide +kernel
theorem dX2_middle_33 : decode cX2_middle 33 = .ok (.invokevirtual 103, 3) := by decide +kernel
theorem dX2_middle_36 : decode cX2_middle 36 = .ok (.invokevirtual 37, 3) := by decide +kernel
theorem dX2_middle_39 : decode cX2_middle 39 = .ok (.ireturn, 1) := by decide +kernel
set_option maxRecDepth 20000 in
theorem ggX2_mirror_X2_power : GoodIn wsX2_mirror wsX2_power := goodIn_r _ [8, 1, 2, 3, 9, 10, 11, 12, 13, 14, 15, 16, 17, 18, 19, 42, 43, 44, 45, 46, 47, 48, 49, 50, 51, 52, 53, 54, 55, 56, 57, 58, 59] rfl (by decide +kernel)
set_option maxRecDepth 20000 in
theorem gX2_mirror_X2_power : GoodIn wsX2_mirror (wsV RX2 107 RX2 yX2_power wsX2_power) := goodIn_app (goodIn_of _ (by decide +kernel)) ggX2_mirror_X2_power
set_option maxRecDepth 20000 in
theorem ggX2_mirror_X3_ratio : GoodIn wsX2_mirror wsX3_ratio := goodIn_r _ [23, 24, 11, 12, 13, 14, 15, 16, 17, 18, 19, 25, 26, 27, 28, 29, 57, 58, 59] rfl (by decide +kernel)
set_option maxRecDepth 20000 in
theorem gX2_mirror_X3_ratio : GoodIn wsX2_mirror (wsV RX2 103 RX3 yX3_ratio wsX3_ratio) := goodIn_app (goodIn_of _ (by decide +kernel)) ggX2_mirror_X3_ratio
set_option maxRecDepth 20000 in
theorem ggX2_mirror_X2_putPoint : GoodIn wsX2_mirror wsX2_putPoint := goodIn_r _ [33, 1, 10, 11, 12, 13, 14, 15, 16, 17, 18, 19, 34, 35, 36, 37, 38, 39, 40, 41, 42, 43, 57, 58, 59, 44, 45, 46, 47, 48, 49, 50, 51, 52, 53, 54, 55, 56] rfl (by decide +kernel)
set_option maxRecDepth 20000 in
theorem gX2_mirror_X2_putPoint : GoodIn wsX2_mirror (wsV RX2 37 RX2 yX2_putPoint wsX2_putPoint) := goodIn_app (goodIn_of _ (by decide +kernel)) ggX2_mirror_X2_putPoint
theorem dX2_mirror_0 : decode cX2_mirror 0 = .ok (.aload_n 0, 1) := by decide +kernel
theorem dX2_mirror_1 : decode cX2_mirror 1 = .ok (.getfield 12, 3) := by decide +kernel
theorem dX2_mirror_4 : decode cX2_mirror 4 = .ok (.iconst 2, 1) := by decide +kernel
theorem dX2_mirror_5 : decode cX2_mirror 5 = .ok (.aload_n 0, 1) := by decide +kernel
theorem dX2_mirror_6 : decode cX2_mirror 6 = .ok (.aload_n 2, 1) := by decide +kernel
theorem dX2_mirror_7 : decode cX2_mirror 7 = .ok (.aload_n 3, 1) := by decide +kernel
theorem dX2_mirror_8 : decode cX2_mirror 8 = .ok (.invokevirtual 107, 3) := by decide +kernel
theorem dX2_mirror_11 : decode cX2_mirror 11 = .ok (.imul, 1) := by decide +kernel
theorem dX2_mirror_12 : decode cX2_mirror 12 = .ok (.aload_n 3, 1) := by decide +kernel
theorem dX2_mirror_13 : decode cX2_mirror 13 = .ok (.getfield 64, 3) := by decide +kernel
theorem dX2_mirror_16 : decode cX2_mirror 16 = .ok (.aload_n 3, 1) := by decide +kernel
theorem dX2_mirror_17 : decode cX2_mirror 17 = .ok (.getfield 64, 3) := by decide +kernel
theorem dX2_mirror_20 : decode cX2_mirror 20 = .ok (.imul, 1) := by decide +kernel
theorem dX2_mirror_21 : decode cX2_mirror 21 = .ok (.aload_n 3, 1) := by decide +kernel
theorem dX2_mirror_22 : decode cX2_mirror 22 = .ok (.getfield 67, 3) := by decide +kernel
theorem dX2_mirror_25 : decode cX2_mirror 25 = .ok (.aload_n 3, 1) := by decide +kernel
theorem dX2_mirror_26 : decode cX2_mirror 26 = .ok (.getfield 67, 3) := by decide +kernel
theorem dX2_mirror_29 : decode cX2_mirror 29 = .ok (.imul, 1) := by decide +kernel
theorem dX2_mirror_30 : decode cX2_mirror 30 = .ok (.iadd, 1) := by decide +kernel
theorem dX2_mirror_31 : decode cX2_mirror 31 = .ok (.invokevirtual 103, 3) := by decide +kernel
theorem dX2_mirror_34 : decode cX2_mirror 34 = .ok (.istore 4, 2) := by decide +kernel
theorem dX2_mirror_36 : decode cX2_mirror 36 = .ok (.aload_n 0, 1) := by decide +kernel
theorem dX2_mirror_37 : decode cX2_mirror 37 = .ok (.aload_n 1, 1) := by decide +kernel
theorem dX2_mirror_38 : decode cX2_mirror 38 = .ok (.aload_n 2, 1) := by decide +kernel
theorem dX2_mirror_39 : decode cX2_mirror 39 = .ok (.getfield 64, 3) := by decide +kernel
theorem dX2_mirror_42 : decode cX2_mirror 42 = .ok (.iload 4, 2) := by decide +kernel
theorem dX2_mirror_44 : decode cX2_mirror 44 = .ok (.aload_n 3, 1) := by decide +kernel
theorem dX2_mirror_45 : decode cX2_mirror 45 = .ok (.getfield 64, 3) := by decide +kernel
theorem dX2_mirror_48 : decode cX2_mirror 48 = .ok (.imul, 1) := by decide +kernel
theorem dX2_mirror_49 : decode cX2_mirror 49 = .ok (.isub, 1) := by decide +kernel
theorem dX2_mirror_50 : decode cX2_mirror 50 = .ok (.aload_n 2, 1) := by decide +kernel
theorem dX2_mirror_51 : decode cX2_mirror 51 = .ok (.getfield 67, 3) := by decide +kernel
theorem dX2_mirror_54 : decode cX2_mirror 54 = .ok (.iload 4, 2) := by decide +kernel
theorem dX2_mirror_56 : decode cX2_mirror 56 = .ok (.aload_n 3, 1) := by decide +kernel
theorem dX2_mirror_57 : decode cX2_mirror 57 = .ok (.getfield 67, 3) := by decide +kernel
theorem dX2_mirror_60 : decode cX2_mirror 60 = .ok (.imul, 1) := by decide +kernel
theorem dX2_mirror_61 : decode cX2_mirror 61 = .ok (.isub, 1) := by decide +kernel
theorem dX2_mirror_62 : decode cX2_mirror 62 = .ok (.invokevirtual 37, 3) := by decide +kernel
theorem dX2_mirror_65 : decode cX2_mirror 65 = .ok (.ireturn, 1) := by decide +kernel
set_option maxRecDepth 20000 in
theorem ggX2_lineThrough_X2_putLine : GoodIn wsX2_lineThrough wsX2_putLine := goodIn_r _ [7, 8, 9, 10, 11, 12, 13, 14, 15, 16, 17, 18, 19, 20, 21, 22, 23, 24, 25, 26, 27, 28, 29, 30, 31, 45, 46, 47, 48, 49, 32, 33, 34, 35, 36, 37, 38, 39, 40, 41, 42, 43, 44] rfl (by decide +kernel)
set_option maxRecDepth 20000 in
theorem gX2_lineThrough_X2_putLine : GoodIn wsX2_lineThrough (wsV RX2 113 RX2 yX2_putLine wsX2_putLine) := goodIn_app (goodIn_of _ (by decide +kernel)) ggX2_lineThrough_X2_putLine
theorem dX2_lineThrough_0 : decode cX2_lineThrough 0 = .ok (.aload_n 0, 1) := by decide +kernel
theorem dX2_lineThrough_1 : decode cX2_lineThrough 1 = .ok (.aload_n 1, 1) := by decide +kernel
theorem dX2_lineThrough_2 : decode cX2_lineThrough 2 = .ok (.aload_n 2, 1) := by decide +kernel
theorem dX2_lineThrough_3 : decode cX2_lineThrough 3 = .ok (.getfield 67, 3) := by decide +kernel
theorem dX2_lineThrough_6 : decode cX2_lineThrough 6 = .ok (.aload_n 3, 1) := by decide +kernel
theorem dX2_lineThrough_7 : decode cX2_lineThrough 7 = .ok (.getfield 67, 3) := by decide +kernel
theorem dX2_lineThrough_10 : decode cX2_lineThrough 10 = .ok (.isub, 1) := by decide +kernel
theorem dX2_lineThrough_11 : decode cX2_lineThrough 11 = .ok (.aload_n 3, 1) := by decide +kernel
theorem dX2_lineThrough_12 : decode cX2_lineThrough 12 = .ok (.getfield 64, 3) := by decide +kernel
theorem dX2_lineThrough_15 : decode cX2_lineThrough 15 = .ok (.aload_n 2, 1) := by decide +kernel
theorem dX2_lineThrough_16 : decode cX2_lineThrough 16 = .ok (.getfield 64, 3) := by decide +kernel
theorem dX2_lineThrough_19 : decode cX2_lineThrough 19 = .ok (.isub, 1) := by decide +kernel
theorem dX2_lineThrough_20 : decode cX2_lineThrough 20 = .ok (.aload_n 2, 1) := by decide +kernel
theorem dX2_lineThrough_21 : decode cX2_lineThrough 21 = .ok (.getfield 64, 3) := by decide +kernel
theorem dX2_lineThrough_24 : decode cX2_lineThrough 24 = .ok (.aload_n 3, 1) := by decide +kernel
theorem dX2_lineThrough_25 : decode cX2_lineThrough 25 = .ok (.getfield 67, 3) := by decide +kernel
theorem dX2_lineThrough_28 : decode cX2_lineThrough 28 = .ok (.imul, 1) := by decide +kernel
theorem dX2_lineThrough_29 : decode cX2_lineThrough 29 = .ok (.aload_n 3, 1) := by decide +kernel
theorem dX2_lineThrough_30 : decode cX2_lineThrough 30 = .ok (.getfield 64, 3) := by decide +kernel
theorem dX2_lineThrough_33 : decode cX2_lineThrough 33 = .ok (.aload_n 2, 1) := by decide +kernel
theorem dX2_lineThrough_34 : decode cX2_lineThrough 34 = .ok (.getfield 67, 3) := by decide +kernel
theorem dX2_lineThrough_37 : decode cX2_lineThrough 37 = .ok (.imul, 1) := by decide +kernel
theorem dX2_lineThrough_38 : decode cX2_lineThrough 38 = .ok (.isub, 1) := by decide +kernel
theorem dX2_lineThrough_39 : decode cX2_lineThrough 39 = .ok (.invokevirtual 113, 3) := by decide +kernel
theorem dX2_lineThrough_42 : decode cX2_lineThrough 42 = .ok (.ireturn, 1) := by decide +kernel
set_option maxRecDepth 20000 in
theorem ggX2_lineAlong_X2_putLine : GoodIn wsX2_lineAlong wsX2_putLine := goodIn_r _ [7, 8, 9, 10, 11, 12, 13, 14, 15, 16, 17, 18, 19, 20, 21, 22, 23, 24, 25, 26, 27, 28, 29, 30, 31, 45, 46, 47, 48, 49, 32, 33, 34, 35, 36, 37, 38, 39, 40, 41, 42, 43, 44] rfl (by decide +kernel)
set_option maxRecDepth 20000 in
theorem gX2_lineAlong_X2_putLine : GoodIn wsX2_lineAlong (wsV RX2 113 RX2 yX2_putLine wsX2_putLine) := goodIn_app (goodIn_of _ (by decide +kernel)) ggX2_lineAlong_X2_putLine
theorem dX2_lineAlong_0 : decode cX2_lineAlong 0 = .ok (.aload_n 0, 1) := by decide +kernel
theorem dX2_lineAlong_1 : decode cX2_lineAlong 1 = .ok (.aload_n 1, 1) := by decide +kernel
theorem dX2_lineAlong_2 : decode cX2_lineAlong 2 = .ok (.iload_n 3, 1) := by decide +kernel
theorem dX2_lineAlong_3 : decode cX2_lineAlong 3 = .ok (.iload 4, 2) := by decide +kernel
theorem dX2_lineAlong_5 : decode cX2_lineAlong 5 = .ok (.iload_n 3, 1) := by decide +kernel
theorem dX2_lineAlong_6 : decode cX2_lineAlong 6 = .ok (.aload_n 2, 1) := by decide +kernel
theorem dX2_lineAlong_7 : decode cX2_lineAlong 7 = .ok (.getfield 64, 3) := by decide +kernel
theorem dX2_lineAlong_10 : decode cX2_lineAlong 10 = .ok (.imul, 1) := by decide +kernel
theorem dX2_lineAlong_11 : decode cX2_lineAlong 11 = .ok (.iload 4, 2) := by decide +kernel
theorem dX2_lineAlong_13 : decode cX2_lineAlong 13 = .ok (.aload_n 2, 1) := by decide +kernel
theorem dX2_lineAlong_14 : decode cX2_lineAlong 14 = .ok (.getfield 67, 3) := by decide +kernel
theorem dX2_lineAlong_17 : decode cX2_lineAlong 17 = .ok (.imul, 1) := by decide +kernel
theorem dX2_lineAlong_18 : decode cX2_lineAlong 18 = .ok (.iadd, 1) := by decide +kernel
theorem dX2_lineAlong_19 : decode cX2_lineAlong 19 = .ok (.ineg, 1) := by decide +kernel
theorem dX2_lineAlong_20 : decode cX2_lineAlong 20 = .ok (.invokevirtual 113, 3) := by decide +kernel
theorem dX2_lineAlong_23 : decode cX2_lineAlong 23 = .ok (.ireturn, 1) := by decide +kernel
set_option maxRecDepth 20000 in
theorem ggX2_lineBetween_X2_putLine : GoodIn wsX2_lineBetween wsX2_putLine := goodIn_r _ [7, 8, 9, 10, 11, 12, 13, 14, 15, 16, 17, 18, 19, 20, 21, 22, 23, 24, 25, 26, 27, 28, 29, 30, 31, 45, 46, 47, 48, 49, 32, 33, 34, 35, 36, 37, 38, 39, 40, 41, 42, 43, 44] rfl (by decide +kernel)
set_option maxRecDepth 20000 in
theorem gX2_lineBetween_X2_putLine : GoodIn wsX2_lineBetween (wsV RX2 113 RX2 yX2_putLine wsX2_putLine) := goodIn_app (goodIn_of _ (by decide +kernel)) ggX2_lineBetween_X2_putLine
theorem dX2_lineBetween_0 : decode cX2_lineBetween 0 = .ok (.aload_n 2, 1) := by decide +kernel
theorem dX2_lineBetween_1 : decode cX2_lineBetween 1 = .ok (.getfield 64, 3) := by decide +kernel
theorem dX2_lineBetween_4 : decode cX2_lineBetween 4 = .ok (.aload_n 2, 1) := by decide +kernel
theorem dX2_lineBetween_5 : decode cX2_lineBetween 5 = .ok (.getfield 64, 3) := by decide +kernel
theorem dX2_lineBetween_8 : decode cX2_lineBetween 8 = .ok (.imul, 1) := by decide +kernel
theorem dX2_lineBetween_9 : decode cX2_lineBetween 9 = .ok (.aload_n 2, 1) := by decide +kernel
theorem dX2_lineBetween_10 : decode cX2_lineBetween 10 = .ok (.getfield 67, 3) := by decide +kernel
theorem dX2_lineBetween_13 : decode cX2_lineBetween 13 = .ok (.aload_n 2, 1) := by decide +kernel
theorem dX2_lineBetween_14 : decode cX2_lineBetween 14 = .ok (.getfield 67, 3) := by decide +kernel
theorem dX2_lineBetween_17 : decode cX2_lineBetween 17 = .ok (.imul, 1) := by decide +kernel
theorem dX2_lineBetween_18 : decode cX2_lineBetween 18 = .ok (.iadd, 1) := by decide +kernel
theorem dX2_lineBetween_19 : decode cX2_lineBetween 19 = .ok (.aload_n 3, 1) := by decide +kernel
theorem dX2_lineBetween_20 : decode cX2_lineBetween 20 = .ok (.getfield 64, 3) := by decide +kernel
theorem dX2_lineBetween_23 : decode cX2_lineBetween 23 = .ok (.aload_n 3, 1) := by decide +kernel
theorem dX2_lineBetween_24 : decode cX2_lineBetween 24 = .ok (.getfield 64, 3) := by decide +kernel
theorem dX2_lineBetween_27 : decode cX2_lineBetween 27 = .ok (.imul, 1) := by decide +kernel
theorem dX2_lineBetween_28 : decode cX2_lineBetween 28 = .ok (.isub, 1) := by decide +kernel
theorem dX2_lineBetween_29 : decode cX2_lineBetween 29 = .ok (.aload_n 3, 1) := by decide +kernel
theorem dX2_lineBetween_30 : decode cX2_lineBetween 30 = .ok (.getfield 67, 3) := by decide +kernel
theorem dX2_lineBetween_33 : decode cX2_lineBetween 33 = .ok (.aload_n 3, 1) := by decide +kernel
theorem dX2_lineBetween_34 : decode cX2_lineBetween 34 = .ok (.getfield 67, 3) := by decide +kernel
theorem dX2_lineBetween_37 : decode cX2_lineBetween 37 = .ok (.imul, 1) := by decide +kernel
theorem dX2_lineBetween_38 : decode cX2_lineBetween 38 = .ok (.isub, 1) := by decide +kernel
theorem dX2_lineBetween_39 : decode cX2_lineBetween 39 = .ok (.istore 4, 2) := by decide +kernel
theorem dX2_lineBetween_41 : decode cX2_lineBetween 41 = .ok (.aload_n 0, 1) := by decide +kernel
theorem dX2_lineBetween_42 : decode cX2_lineBetween 42 = .ok (.aload_n 1, 1) := by decide +kernel
theorem dX2_lineBetween_43 : decode cX2_lineBetween 43 = .ok (.iconst 2, 1) := by decide +kernel
theorem dX2_lineBetween_44 : decode cX2_lineBetween 44 = .ok (.aload_n 3, 1) := by decide +kernel
theorem dX2_lineBetween_45 : decode cX2_lineBetween 45 = .ok (.getfield 64, 3) := by decide +kernel
theorem dX2_lineBetween_48 : decode cX2_lineBetween 48 = .ok (.aload_n 2, 1) := by decide +kernel
theorem dX2_lineBetween_49 : decode cX2_lineBetween 49 = .ok (.getfield 64, 3) := by decide +kernel
theorem dX2_lineBetween_52 : decode cX2_lineBetween 52 = .ok (.isub, 1) := by decide +kernel
theorem dX2_lineBetween_53 : decode cX2_lineBetween 53 = .ok (.imul, 1) := by decide +kernel
theorem dX2_lineBetween_54 : decode cX2_lineBetween 54 = .ok (.iconst 2, 1) := by decide +kernel
theorem dX2_lineBetween_55 : decode cX2_lineBetween 55 = .ok (.aload_n 3, 1) := by decide +kernel
theorem dX2_lineBetween_56 : decode cX2_lineBetween 56 = .ok (.getfield 67, 3) := by decide +kernel
theorem dX2_lineBetween_59 : decode cX2_lineBetween 59 = .ok (.aload_n 2, 1) := by decide +kernel
theorem dX2_lineBetween_60 : decode cX2_lineBetween 60 = .ok (.getfield 67, 3) := by decide +kernel
theorem dX2_lineBetween_63 : decode cX2_lineBetween 63 = .ok (.isub, 1) := by decide +kernel
theorem dX2_lineBetween_64 : decode cX2_lineBetween 64 = .ok (.imul, 1) := by decide +kernel
theorem dX2_lineBetween_65 : decode cX2_lineBetween 65 = .ok (.iload 4, 2) := by decide +kernel
theorem dX2_lineBetween_67 : decode cX2_lineBetween 67 = .ok (.invokevirtual 113, 3) := by decide +kernel
theorem dX2_lineBetween_70 : decode cX2_lineBetween 70 = .ok (.ireturn, 1) := by decide +kernel
set_option maxRecDepth 20000 in
theorem ggX2_circleThrough_X3_rest : GoodIn wsX2_circleThrough wsX3_rest := goodIn_r _ [8, 9, 10, 11, 12, 13, 53, 54, 55] rfl (by decide +kernel)
set_option maxRecDepth 20000 in
theorem gX2_circleThrough_X3_rest : GoodIn wsX2_circleThrough (wsV RX2 89 RX3 yX3_rest wsX3_rest) := goodIn_app (goodIn_of _ (by decide +kernel)) ggX2_circleThrough_X3_rest
set_option maxRecDepth 20000 in
theorem ggX2_circleThrough_X3_ratio : GoodIn wsX2_circleThrough wsX3_ratio := goodIn_r _ [17, 18, 5, 6, 7, 8, 9, 10, 11, 12, 13, 19, 20, 21, 22, 23, 53, 54, 55] rfl (by decide +kernel)
set_option maxRecDepth 20000 in
theorem gX2_circleThrough_X3_ratio : GoodIn wsX2_circleThrough (wsV RX2 103 RX3 yX3_ratio wsX3_ratio) := goodIn_app (goodIn_of _ (by decide +kernel)) ggX2_circleThrough_X3_ratio
set_option maxRecDepth 20000 in
theorem ggX2_circleThrough_X2_putCircle : GoodIn wsX2_circleThrough wsX2_putCircle := goodIn_r _ [28, 3, 29, 4, 5, 6, 7, 8, 9, 10, 11, 12, 13, 30, 31, 32, 33, 34, 35, 36, 37, 51, 52, 38, 39, 40, 41, 42, 43, 44, 45, 46, 47, 48, 49, 50, 53, 54, 55] rfl (by decide +kernel)
set_option maxRecDepth 20000 in
theorem gX2_circleThrough_X2_putCircle : GoodIn wsX2_circleThrough (wsV RX2 81 RX2 yX2_putCircle wsX2_putCircle) := goodIn_app (goodIn_of _ (by decide +kernel)) ggX2_circleThrough_X2_putCircle
theorem dX2_circleThrough_0 : decode cX2_circleThrough 0 = .ok (.aload_n 3, 1) := by decide +kernel
theorem dX2_circleThrough_1 : decode cX2_circleThrough 1 = .ok (.getfield 64, 3) := by decide +kernel
theorem dX2_circleThrough_4 : decode cX2_circleThrough 4 = .ok (.aload_n 2, 1) := by decide +kernel
theorem dX2_circleThrough_5 : decode cX2_circleThrough 5 = .ok (.getfield 64, 3) := by decide +kernel
theorem dX2_circleThrough_8 : decode cX2_circleThrough 8 = .ok (.isub, 1) := by decide +kernel
theorem dX2_circleThrough_9 : decode cX2_circleThrough 9 = .ok (.istore 5, 2) := by decide +kernel
theorem dX2_circleThrough_11 : decode cX2_circleThrough 11 = .ok (.aload_n 3, 1) := by decide +kernel
theorem dX2_circleThrough_12 : decode cX2_circleThrough 12 = .ok (.getfield 67, 3) := by decide +kernel
theorem dX2_circleThrough_15 : decode cX2_circleThrough 15 = .ok (.aload_n 2, 1) := by decide +kernel
theorem dX2_circleThrough_16 : decode cX2_circleThrough 16 = .ok (.getfield 67, 3) := by decide +kernel
theorem dX2_circleThrough_19 : decode cX2_circleThrough 19 = .ok (.isub, 1) := by decide +kernel
theorem dX2_circleThrough_20 : decode cX2_circleThrough 20 = .ok (.istore 6, 2) := by decide +kernel
theorem dX2_circleThrough_22 : decode cX2_circleThrough 22 = .ok (.aload 4, 2) := by decide +kernel
theorem dX2_circleThrough_24 : decode cX2_circleThrough 24 = .ok (.getfield 64, 3) := by decide +kernel
theorem dX2_circleThrough_27 : decode cX2_circleThrough 27 = .ok (.aload_n 2, 1) := by decide +kernel
theorem dX2_circleThrough_28 : decode cX2_circleThrough 28 = .ok (.getfield 64, 3) := by decide +kernel
theorem dX2_circleThrough_31 : decode cX2_circleThrough 31 = .ok (.isub, 1) := by decide +kernel
theorem dX2_circleThrough_32 : decode cX2_circleThrough 32 = .ok (.istore 7, 2) := by decide +kernel
theorem dX2_circleThrough_34 : decode cX2_circleThrough 34 = .ok (.aload 4, 2) := by decide +kernel
theorem dX2_circleThrough_36 : decode cX2_circleThrough 36 = .ok (.getfield 67, 3) := by decide +kernel
theorem dX2_circleThrough_39 : decode cX2_circleThrough 39 = .ok (.aload_n 2, 1) := by decide +kernel
theorem dX2_circleThrough_40 : decode cX2_circleThrough 40 = .ok (.getfield 67, 3) := by decide +kernel
theorem dX2_circleThrough_43 : decode cX2_circleThrough 43 = .ok (.isub, 1) := by decide +kernel
theorem dX2_circleThrough_44 : decode cX2_circleThrough 44 = .ok (.istore 8, 2) := by decide +kernel
theorem dX2_circleThrough_46 : decode cX2_circleThrough 46 = .ok (.aload_n 0, 1) := by decide +kernel
theorem dX2_circleThrough_47 : decode cX2_circleThrough 47 = .ok (.getfield 12, 3) := by decide +kernel
theorem dX2_circleThrough_50 : decode cX2_circleThrough 50 = .ok (.iconst 2, 1) := by decide +kernel
theorem dX2_circleThrough_51 : decode cX2_circleThrough 51 = .ok (.iload 5, 2) := by decide +kernel
theorem dX2_circleThrough_53 : decode cX2_circleThrough 53 = .ok (.iload 8, 2) := by decide +kernel
theorem dX2_circleThrough_55 : decode cX2_circleThrough 55 = .ok (.imul, 1) := by decide +kernel
theorem dX2_circleThrough_56 : decode cX2_circleThrough 56 = .ok (.iload 7, 2) := by decide +kernel
theorem dX2_circleThrough_58 : decode cX2_circleThrough 58 = .ok (.iload 6, 2) := by decide +kernel
theorem dX2_circleThrough_60 : decode cX2_circleThrough 60 = .ok (.imul, 1) := by decide +kernel
theorem dX2_circleThrough_61 : decode cX2_circleThrough 61 = .ok (.isub, 1) := by decide +kernel
theorem dX2_circleThrough_62 : decode cX2_circleThrough 62 = .ok (.imul, 1) := by decide +kernel
theorem dX2_circleThrough_63 : decode cX2_circleThrough 63 = .ok (.invokevirtual 89, 3) := by decide +kernel
theorem dX2_circleThrough_66 : decode cX2_circleThrough 66 = .ok (.istore 9, 2) := by decide +kernel
theorem dX2_circleThrough_68 : decode cX2_circleThrough 68 = .ok (.iload 9, 2) := by decide +kernel
theorem dX2_circleThrough_70 : decode cX2_circleThrough 70 = .ok (.ifCond .ne 5, 3) := by decide +kernel
theorem dX2_circleThrough_73 : decode cX2_circleThrough 73 = .ok (.iconst 0, 1) := by decide +kernel
theorem dX2_circleThrough_74 : decode cX2_circleThrough 74 = .ok (.ireturn, 1) := by decide +kernel
theorem dX2_circleThrough_75 : decode cX2_circleThrough 75 = .ok (.iload 5, 2) := by decide +kernel
theorem dX2_circleThrough_77 : decode cX2_circleThrough 77 = .ok (.iload 5, 2) := by decide +kernel
theorem dX2_circleThrough_79 : decode cX2_circleThrough 79 = .ok (.imul, 1) := by decide +kernel
theorem dX2_circleThrough_80 : decode cX2_circleThrough 80 = .ok (.iload 6, 2) := by decide +kernel
theorem dX2_circleThrough_82 : decode cX2_circleThrough 82 = .ok (.iload 6, 2) := by decide +kernel
theorem dX2_circleThrough_84 : decode cX2_circleThrough 84 = .ok (.imul, 1) := by decide +kernel
theorem dX2_circleThrough_85 : decode cX2_circleThrough 85 = .ok (.iadd, 1) := by decide +kernel
theorem dX2_circleThrough_86 : decode cX2_circleThrough 86 = .ok (.istore 10, 2) := by decide +kernel
theorem dX2_circleThrough_88 : decode cX2_circleThrough 88 = .ok (.iload 7, 2) := by decide +kernel
theorem dX2_circleThrough_90 : decode cX2_circleThrough 90 = .ok (.iload 7, 2) := by decide +kernel
theorem dX2_circleThrough_92 : decode cX2_circleThrough 92 = .ok (.imul, 1) := by decide +kernel
theorem dX2_circleThrough_93 : decode cX2_circleThrough 93 = .ok (.iload 8, 2) := by decide +kernel
theorem dX2_circleThrough_95 : decode cX2_circleThrough 95 = .ok (.iload 8, 2) := by decide +kernel
theorem dX2_circleThrough_97 : decode cX2_circleThrough 97 = .ok (.imul, 1) := by decide +kernel
theorem dX2_circleThrough_98 : decode cX2_circleThrough 98 = .ok (.iadd, 1) := by decide +kernel
theorem dX2_circleThrough_99 : decode cX2_circleThrough 99 = .ok (.istore 11, 2) := by decide +kernel
theorem dX2_circleThrough_101 : decode cX2_circleThrough 101 = .ok (.aload_n 0, 1) := by decide +kernel
theorem dX2_circleThrough_102 : decode cX2_circleThrough 102 = .ok (.getfield 12, 3) := by decide +kernel
theorem dX2_circleThrough_105 : decode cX2_circleThrough 105 = .ok (.iload 8, 2) := by decide +kernel
theorem dX2_circleThrough_107 : decode cX2_circleThrough 107 = .ok (.iload 10, 2) := by decide +kernel
theorem dX2_circleThrough_109 : decode cX2_circleThrough 109 = .ok (.imul, 1) := by decide +kernel
theorem dX2_circleThrough_110 : decode cX2_circleThrough 110 = .ok (.iload 6, 2) := by decide +kernel
theorem dX2_circleThrough_112 : decode cX2_circleThrough 112 = .ok (.iload 11, 2) := by decide +kernel
theorem dX2_circleThrough_114 : decode cX2_circleThrough 114 = .ok (.imul, 1) := by decide +kernel
theorem dX2_circleThrough_115 : decode cX2_circleThrough 115 = .ok (.isub, 1) := by decide +kernel
theorem dX2_circleThrough_116 : decode cX2_circleThrough 116 = .ok (.iload 9, 2) := by decide +kernel
theorem dX2_circleThrough_118 : decode cX2_circleThrough 118 = .ok (.invokevirtual 103, 3) := by decide +kernel
theorem dX2_circleThrough_121 : decode cX2_circleThrough 121 = .ok (.istore 12, 2) := by decide +kernel
theorem dX2_circleThrough_123 : decode cX2_circleThrough 123 = .ok (.aload_n 0, 1) := by decide +kernel
theorem dX2_circleThrough_124 : decode cX2_circleThrough 124 = .ok (.getfield 12, 3) := by decide +kernel
theorem dX2_circleThrough_127 : decode cX2_circleThrough 127 = .ok (.iload 5, 2) := by decide +kernel
theorem dX2_circleThrough_129 : decode cX2_circleThrough 129 = .ok (.iload 11, 2) := by decide +kernel
theorem dX2_circleThrough_131 : decode cX2_circleThrough 131 = .ok (.imul, 1) := by decide +kernel
theorem dX2_circleThrough_132 : decode cX2_circleThrough 132 = .ok (.iload 7, 2) := by decide +kernel
theorem dX2_circleThrough_134 : decode cX2_circleThrough 134 = .ok (.iload 10, 2) := by decide +kernel
theorem dX2_circleThrough_136 : decode cX2_circleThrough 136 = .ok (.imul, 1) := by decide +kernel
theorem dX2_circleThrough_137 : decode cX2_circleThrough 137 = .ok (.isub, 1) := by decide +kernel
theorem dX2_circleThrough_138 : decode cX2_circleThrough 138 = .ok (.iload 9, 2) := by decide +kernel
theorem dX2_circleThrough_140 : decode cX2_circleThrough 140 = .ok (.invokevirtual 103, 3) := by decide +kernel
theorem dX2_circleThrough_143 : decode cX2_circleThrough 143 = .ok (.istore 13, 2) := by decide +kernel
theorem dX2_circleThrough_145 : decode cX2_circleThrough 145 = .ok (.aload_n 0, 1) := by decide +kernel
theorem dX2_circleThrough_146 : decode cX2_circleThrough 146 = .ok (.aload_n 1, 1) := by decide +kernel
theorem dX2_circleThrough_147 : decode cX2_circleThrough 147 = .ok (.aload_n 2, 1) := by decide +kernel
theorem dX2_circleThrough_148 : decode cX2_circleThrough 148 = .ok (.getfield 64, 3) := by decide +kernel
theorem dX2_circleThrough_151 : decode cX2_circleThrough 151 = .ok (.iload 12, 2) := by decide +kernel
theorem dX2_circleThrough_153 : decode cX2_circleThrough 153 = .ok (.iadd, 1) := by decide +kernel
theorem dX2_circleThrough_154 : decode cX2_circleThrough 154 = .ok (.aload_n 2, 1) := by decide +kernel
theorem dX2_circleThrough_155 : decode cX2_circleThrough 155 = .ok (.getfield 67, 3) := by decide +kernel
theorem dX2_circleThrough_158 : decode cX2_circleThrough 158 = .ok (.iload 13, 2) := by decide +kernel
theorem dX2_circleThrough_160 : decode cX2_circleThrough 160 = .ok (.iadd, 1) := by decide +kernel
theorem dX2_circleThrough_161 : decode cX2_circleThrough 161 = .ok (.iload 12, 2) := by decide +kernel
theorem dX2_circleThrough_163 : decode cX2_circleThrough 163 = .ok (.iload 12, 2) := by decide +kernel
theorem dX2_circleThrough_165 : decode cX2_circleThrough 165 = .ok (.imul, 1) := by decide +kernel
theorem dX2_circleThrough_166 : decode cX2_circleThrough 166 = .ok (.iload 13, 2) := by decide +kernel
theorem dX2_circleThrough_168 : decode cX2_circleThrough 168 = .ok (.iload 13, 2) := by decide +kernel
theorem dX2_circleThrough_170 : decode cX2_circleThrough 170 = .ok (.imul, 1) := by decide +kernel
theorem dX2_circleThrough_171 : decode cX2_circleThrough 171 = .ok (.iadd, 1) := by decide +kernel
theorem dX2_circleThrough_172 : decode cX2_circleThrough 172 = .ok (.invokevirtual 81, 3) := by decide +kernel
theorem dX2_circleThrough_175 : decode cX2_circleThrough 175 = .ok (.ireturn, 1) := by decide +kernel
set_option maxRecDepth 20000 in
theorem ggX2_squareOf_X3_rest : GoodIn wsX2_squareOf wsX3_rest := goodIn_r _ [8, 9, 10, 11, 12, 13, 29, 30, 31] rfl (by decide +kernel)
set_option maxRecDepth 20000 in
theorem gX2_squareOf_X3_rest : GoodIn wsX2_squareOf (wsV RX2 89 RX3 yX3_rest wsX3_rest) := goodIn_app (goodIn_of _ (by decide +kernel)) ggX2_squareOf_X3_rest
theorem dX2_squareOf_0 : decode cX2_squareOf 0 = .ok (.aload_n 1, 1) := by decide +kernel
theorem dX2_squareOf_1 : decode cX2_squareOf 1 = .ok (.getfield 64, 3) := by decide +kernel
theorem dX2_squareOf_4 : decode cX2_squareOf 4 = .ok (.aload_n 2, 1) := by decide +kernel
theorem dX2_squareOf_5 : decode cX2_squareOf 5 = .ok (.getfield 64, 3) := by decide +kernel
theorem dX2_squareOf_8 : decode cX2_squareOf 8 = .ok (.isub, 1) := by decide +kernel
theorem dX2_squareOf_9 : decode cX2_squareOf 9 = .ok (.istore_n 3, 1) := by decide +kernel
theorem dX2_squareOf_10 : decode cX2_squareOf 10 = .ok (.aload_n 1, 1) := by decide +kernel
theorem dX2_squareOf_11 : decode cX2_squareOf 11 = .ok (.getfield 67, 3) := by decide +kernel
theorem dX2_squareOf_14 : decode cX2_squareOf 14 = .ok (.aload_n 2, 1) := by decide +kernel
theorem dX2_squareOf_15 : decode cX2_squareOf 15 = .ok (.getfield 67, 3) := by decide +kernel
theorem dX2_squareOf_18 : decode cX2_squareOf 18 = .ok (.isub, 1) := by decide +kernel
theorem dX2_squareOf_19 : decode cX2_squareOf 19 = .ok (.istore 4, 2) := by decide +kernel
theorem dX2_squareOf_21 : decode cX2_squareOf 21 = .ok (.aload_n 0, 1) := by decide +kernel
theorem dX2_squareOf_22 : decode cX2_squareOf 22 = .ok (.getfield 12, 3) := by decide +kernel
theorem dX2_squareOf_25 : decode cX2_squareOf 25 = .ok (.iload_n 3, 1) := by decide +kernel
theorem dX2_squareOf_26 : decode cX2_squareOf 26 = .ok (.iload_n 3, 1) := by decide +kernel
theorem dX2_squareOf_27 : decode cX2_squareOf 27 = .ok (.imul, 1) := by decide +kernel
theorem dX2_squareOf_28 : decode cX2_squareOf 28 = .ok (.iload 4, 2) := by decide +kernel
theorem dX2_squareOf_30 : decode cX2_squareOf 30 = .ok (.iload 4, 2) := by decide +kernel
theorem dX2_squareOf_32 : decode cX2_squareOf 32 = .ok (.imul, 1) := by decide +kernel
theorem dX2_squareOf_33 : decode cX2_squareOf 33 = .ok (.iadd, 1) := by decide +kernel
theorem dX2_squareOf_34 : decode cX2_squareOf 34 = .ok (.invokevirtual 89, 3) := by decide +kernel
theorem dX2_squareOf_37 : decode cX2_squareOf 37 = .ok (.ireturn, 1) := by decide +kernel
set_option maxRecDepth 20000 in
theorem ggX2_power_X3_rest : GoodIn wsX2_power wsX3_rest := goodIn_r _ [9, 10, 11, 12, 13, 14, 30, 31, 32] rfl (by decide +kernel)
set_option maxRecDepth 20000 in
theorem gX2_power_X3_rest : GoodIn wsX2_power (wsV RX2 89 RX3 yX3_rest wsX3_rest) := goodIn_app (goodIn_of _ (by decide +kernel)) ggX2_power_X3_rest
theorem dX2_power_0 : decode cX2_power 0 = .ok (.aload_n 0, 1) := by decide +kernel
theorem dX2_power_1 : decode cX2_power 1 = .ok (.getfield 12, 3) := by decide +kernel
theorem dX2_power_4 : decode cX2_power 4 = .ok (.aload_n 2, 1) := by decide +kernel
theorem dX2_power_5 : decode cX2_power 5 = .ok (.getfield 64, 3) := by decide +kernel
theorem dX2_power_8 : decode cX2_power 8 = .ok (.aload_n 1, 1) := by decide +kernel
theorem dX2_power_9 : decode cX2_power 9 = .ok (.getfield 64, 3) := by decide +kernel
theorem dX2_power_12 : decode cX2_power 12 = .ok (.imul, 1) := by decide +kernel
theorem dX2_power_13 : decode cX2_power 13 = .ok (.aload_n 2, 1) := by decide +kernel
theorem dX2_power_14 : decode cX2_power 14 = .ok (.getfield 67, 3) := by decide +kernel
theorem dX2_power_17 : decode cX2_power 17 = .ok (.aload_n 1, 1) := by decide +kernel
theorem dX2_power_18 : decode cX2_power 18 = .ok (.getfield 67, 3) := by decide +kernel
theorem dX2_power_21 : decode cX2_power 21 = .ok (.imul, 1) := by decide +kernel
theorem dX2_power_22 : decode cX2_power 22 = .ok (.iadd, 1) := by decide +kernel
theorem dX2_power_23 : decode cX2_power 23 = .ok (.aload_n 2, 1) := by decide +kernel
theorem dX2_power_24 : decode cX2_power 24 = .ok (.getfield 100, 3) := by decide +kernel
theorem dX2_power_27 : decode cX2_power 27 = .ok (.iadd, 1) := by decide +kernel
theorem dX2_power_28 : decode cX2_power 28 = .ok (.invokevirtual 89, 3) := by decide +kernel
theorem dX2_power_31 : decode cX2_power 31 = .ok (.ireturn, 1) := by decide +kernel
theorem dX3_init_0 : decode cX3_init 0 = .ok (.aload_n 0, 1) := by decide +kernel
theorem dX3_init_1 : decode cX3_init 1 = .ok (.invokespecial 3, 3) := by decide +kernel
theorem dX3_init_4 : decode cX3_init 4 = .ok (.aload_n 0, 1) := by decide +kernel
theorem dX3_init_5 : decode cX3_init 5 = .ok (.bipush 43, 2) := by decide +kernel
theorem dX3_init_7 : decode cX3_init 7 = .ok (.putfield 9, 3) := by decide +kernel
theorem dX3_init_10 : decode cX3_init 10 = .ok (.aload_n 0, 1) := by decide +kernel
theorem dX3_init_11 : decode cX3_init 11 = .ok (.bipush 43, 2) := by decide +kernel
theorem dX3_init_13 : decode cX3_init 13 = .ok (.newarray .int, 2) := by decide +kernel
theorem dX3_init_15 : decode cX3_init 15 = .ok (.putfield 15, 3) := by decide +kernel
theorem dX3_init_18 : decode cX3_init 18 = .ok (.aload_n 0, 1) := by decide +kernel
theorem dX3_init_19 : decode cX3_init 19 = .ok (.bipush 43, 2) := by decide +kernel
theorem dX3_init_21 : decode cX3_init 21 = .ok (.newarray .int, 2) := by decide +kernel
theorem dX3_init_23 : decode cX3_init 23 = .ok (.putfield 19, 3) := by decide +kernel
theorem dX3_init_26 : decode cX3_init 26 = .ok (.return_, 1) := by decide +kernel
theorem dX3_isOffered_0 : decode cX3_isOffered 0 = .ok (.iload_n 0, 1) := by decide +kernel
theorem dX3_isOffered_1 : decode cX3_isOffered 1 = .ok (.bipush 7, 2) := by decide +kernel
theorem dX3_isOffered_3 : decode cX3_isOffered 3 = .ok (.if_icmp .eq 33, 3) := by decide +kernel
theorem dX3_isOffered_6 : decode cX3_isOffered 6 = .ok (.iload_n 0, 1) := by decide +kernel
theorem dX3_isOffered_7 : decode cX3_isOffered 7 = .ok (.bipush 11, 2) := by decide +kernel
theorem dX3_isOffered_9 : decode cX3_isOffered 9 = .ok (.if_icmp .eq 27, 3) := by decide +kernel
theorem dX3_isOffered_12 : decode cX3_isOffered 12 = .ok (.iload_n 0, 1) := by decide +kernel
theorem dX3_isOffered_13 : decode cX3_isOffered 13 = .ok (.bipush 19, 2) := by decide +kernel
theorem dX3_isOffered_15 : decode cX3_isOffered 15 = .ok (.if_icmp .eq 21, 3) := by decide +kernel
theorem dX3_isOffered_18 : decode cX3_isOffered 18 = .ok (.iload_n 0, 1) := by decide +kernel
theorem dX3_isOffered_19 : decode cX3_isOffered 19 = .ok (.bipush 23, 2) := by decide +kernel
theorem dX3_isOffered_21 : decode cX3_isOffered 21 = .ok (.if_icmp .eq 15, 3) := by decide +kernel
theorem dX3_isOffered_24 : decode cX3_isOffered 24 = .ok (.iload_n 0, 1) := by decide +kernel
theorem dX3_isOffered_25 : decode cX3_isOffered 25 = .ok (.bipush 31, 2) := by decide +kernel
theorem dX3_isOffered_27 : decode cX3_isOffered 27 = .ok (.if_icmp .eq 9, 3) := by decide +kernel
theorem dX3_isOffered_30 : decode cX3_isOffered 30 = .ok (.iload_n 0, 1) := by decide +kernel
theorem dX3_isOffered_31 : decode cX3_isOffered 31 = .ok (.bipush 43, 2) := by decide +kernel
theorem dX3_isOffered_33 : decode cX3_isOffered 33 = .ok (.if_icmp .ne 7, 3) := by decide +kernel
theorem dX3_isOffered_36 : decode cX3_isOffered 36 = .ok (.iconst 1, 1) := by decide +kernel
theorem dX3_isOffered_37 : decode cX3_isOffered 37 = .ok (.goto 4, 3) := by decide +kernel
theorem dX3_isOffered_40 : decode cX3_isOffered 40 = .ok (.iconst 0, 1) := by decide +kernel
theorem dX3_isOffered_41 : decode cX3_isOffered 41 = .ok (.ireturn, 1) := by decide +kernel
set_option maxRecDepth 20000 in
theorem ggX3_choose_X3_rest : GoodIn wsX3_choose wsX3_rest := goodIn_r _ [8, 1, 9, 10, 11, 12, 16, 17, 18] rfl (by decide +kernel)
set_option maxRecDepth 20000 in
theorem gX3_choose_X3_rest : GoodIn wsX3_choose (wsV RX3 22 RX3 yX3_rest wsX3_rest) := goodIn_app (goodIn_of _ (by decide +kernel)) ggX3_choose_X3_rest
set_option maxRecDepth 20000 in
theorem ggX3_choose_X3_keep : GoodIn wsX3_choose wsX3_keep := goodIn_r _ [15] rfl (by decide +kernel)
set_option maxRecDepth 20000 in
theorem gX3_choose_X3_keep : GoodIn wsX3_choose (va_wsS RX3 26 yX3_keep wsX3_keep) := goodIn_app (goodIn_of _ (by decide +kernel)) ggX3_choose_X3_keep
theorem dX3_choose_0 : decode cX3_choose 0 = .ok (.aload_n 0, 1) := by decide +kernel
theorem dX3_choose_1 : decode cX3_choose 1 = .ok (.iload_n 1, 1) := by decide +kernel
theorem dX3_choose_2 : decode cX3_choose 2 = .ok (.putfield 9, 3) := by decide +kernel
theorem dX3_choose_5 : decode cX3_choose 5 = .ok (.iconst 0, 1) := by decide +kernel
theorem dX3_choose_6 : decode cX3_choose 6 = .ok (.istore_n 2, 1) := by decide +kernel
theorem dX3_choose_7 : decode cX3_choose 7 = .ok (.iload_n 2, 1) := by decide +kernel
theorem dX3_choose_8 : decode cX3_choose 8 = .ok (.aload_n 0, 1) := by decide +kernel
theorem dX3_choose_9 : decode cX3_choose 9 = .ok (.getfield 19, 3) := by decide +kernel
theorem dX3_choose_12 : decode cX3_choose 12 = .ok (.arraylength, 1) := by decide +kernel
theorem dX3_choose_13 : decode cX3_choose 13 = .ok (.if_icmp .ge 16, 3) := by decide +kernel
theorem dX3_choose_16 : decode cX3_choose 16 = .ok (.aload_n 0, 1) := by decide +kernel
theorem dX3_choose_17 : decode cX3_choose 17 = .ok (.getfield 19, 3) := by decide +kernel
theorem dX3_choose_20 : decode cX3_choose 20 = .ok (.iload_n 2, 1) := by decide +kernel
theorem dX3_choose_21 : decode cX3_choose 21 = .ok (.iconst (-1), 1) := by decide +kernel
theorem dX3_choose_22 : decode cX3_choose 22 = .ok (.iastore, 1) := by decide +kernel
theorem dX3_choose_23 : decode cX3_choose 23 = .ok (.iinc 2 1, 3) := by decide +kernel
theorem dX3_choose_26 : decode cX3_choose 26 = .ok (.goto (-19), 3) := by decide +kernel
theorem dX3_choose_29 : decode cX3_choose 29 = .ok (.iload_n 1, 1) := by decide +kernel
theorem dX3_choose_30 : decode cX3_choose 30 = .ok (.iconst 1, 1) := by decide +kernel
theorem dX3_choose_31 : decode cX3_choose 31 = .ok (.isub, 1) := by decide +kernel
theorem dX3_choose_32 : decode cX3_choose 32 = .ok (.istore_n 2, 1) := by decide +kernel
theorem dX3_choose_33 : decode cX3_choose 33 = .ok (.iload_n 2, 1) := by decide +kernel
theorem dX3_choose_34 : decode cX3_choose 34 = .ok (.ifCond .lt 24, 3) := by decide +kernel
theorem dX3_choose_37 : decode cX3_choose 37 = .ok (.aload_n 0, 1) := by decide +kernel
theorem dX3_choose_38 : decode cX3_choose 38 = .ok (.getfield 19, 3) := by decide +kernel
theorem dX3_choose_41 : decode cX3_choose 41 = .ok (.aload_n 0, 1) := by decide +kernel
theorem dX3_choose_42 : decode cX3_choose 42 = .ok (.iload_n 2, 1) := by decide +kernel
theorem dX3_choose_43 : decode cX3_choose 43 = .ok (.iload_n 2, 1) := by decide +kernel
theorem dX3_choose_44 : decode cX3_choose 44 = .ok (.imul, 1) := by decide +kernel
theorem dX3_choose_45 : decode cX3_choose 45 = .ok (.invokevirtual 22, 3) := by decide +kernel
theorem dX3_choose_48 : decode cX3_choose 48 = .ok (.iload_n 2, 1) := by decide +kernel
theorem dX3_choose_49 : decode cX3_choose 49 = .ok (.invokestatic 26, 3) := by decide +kernel
theorem dX3_choose_52 : decode cX3_choose 52 = .ok (.iinc 2 (-1), 3) := by decide +kernel
theorem dX3_choose_55 : decode cX3_choose 55 = .ok (.goto (-22), 3) := by decide +kernel
theorem dX3_choose_58 : decode cX3_choose 58 = .ok (.iconst 1, 1) := by decide +kernel
theorem dX3_choose_59 : decode cX3_choose 59 = .ok (.istore_n 2, 1) := by decide +kernel
theorem dX3_choose_60 : decode cX3_choose 60 = .ok (.iload_n 2, 1) := by decide +kernel
theorem dX3_choose_61 : decode cX3_choose 61 = .ok (.iload_n 1, 1) := by decide +kernel
theorem dX3_choose_62 : decode cX3_choose 62 = .ok (.if_icmp .ge 42, 3) := by decide +kernel
theorem dX3_choose_65 : decode cX3_choose 65 = .ok (.iconst 1, 1) := by decide +kernel
theorem dX3_choose_66 : decode cX3_choose 66 = .ok (.istore_n 3, 1) := by decide +kernel
theorem dX3_choose_67 : decode cX3_choose 67 = .ok (.iload_n 3, 1) := by decide +kernel
theorem dX3_choose_68 : decode cX3_choose 68 = .ok (.iload_n 1, 1) := by decide +kernel
theorem dX3_choose_69 : decode cX3_choose 69 = .ok (.if_icmp .ge 29, 3) := by decide +kernel
theorem dX3_choose_72 : decode cX3_choose 72 = .ok (.aload_n 0, 1) := by decide +kernel
theorem dX3_choose_73 : decode cX3_choose 73 = .ok (.iload_n 2, 1) := by decide +kernel
theorem dX3_choose_74 : decode cX3_choose 74 = .ok (.iload_n 3, 1) := by decide +kernel
theorem dX3_choose_75 : decode cX3_choose 75 = .ok (.imul, 1) := by decide +kernel
theorem dX3_choose_76 : decode cX3_choose 76 = .ok (.invokevirtual 22, 3) := by decide +kernel
theorem dX3_choose_79 : decode cX3_choose 79 = .ok (.iconst 1, 1) := by decide +kernel
theorem dX3_choose_80 : decode cX3_choose 80 = .ok (.if_icmp .ne 12, 3) := by decide +kernel
theorem dX3_choose_83 : decode cX3_choose 83 = .ok (.aload_n 0, 1) := by decide +kernel
theorem dX3_choose_84 : decode cX3_choose 84 = .ok (.getfield 15, 3) := by decide +kernel
theorem dX3_choose_87 : decode cX3_choose 87 = .ok (.iload_n 2, 1) := by decide +kernel
theorem dX3_choose_88 : decode cX3_choose 88 = .ok (.iload_n 3, 1) := by decide +kernel
theorem dX3_choose_89 : decode cX3_choose 89 = .ok (.invokestatic 26, 3) := by decide +kernel
theorem dX3_choose_92 : decode cX3_choose 92 = .ok (.iinc 3 1, 3) := by decide +kernel
theorem dX3_choose_95 : decode cX3_choose 95 = .ok (.goto (-28), 3) := by decide +kernel
theorem dX3_choose_98 : decode cX3_choose 98 = .ok (.iinc 2 1, 3) := by decide +kernel
theorem dX3_choose_101 : decode cX3_choose 101 = .ok (.goto (-41), 3) := by decide +kernel
theorem dX3_choose_104 : decode cX3_choose 104 = .ok (.return_, 1) := by decide +kernel
theorem dX3_keep_0 : decode cX3_keep 0 = .ok (.iload_n 1, 1) := by decide +kernel
theorem dX3_keep_1 : decode cX3_keep 1 = .ok (.ifCond .lt 13, 3) := by decide +kernel
theorem dX3_keep_4 : decode cX3_keep 4 = .ok (.iload_n 1, 1) := by decide +kernel
theorem dX3_keep_5 : decode cX3_keep 5 = .ok (.aload_n 0, 1) := by decide +kernel
theorem dX3_keep_6 : decode cX3_keep 6 = .ok (.arraylength, 1) := by decide +kernel
theorem dX3_keep_7 : decode cX3_keep 7 = .ok (.if_icmp .ge 7, 3) := by decide +kernel
theorem dX3_keep_10 : decode cX3_keep 10 = .ok (.aload_n 0, 1) := by decide +kernel
theorem dX3_keep_11 : decode cX3_keep 11 = .ok (.iload_n 1, 1) := by decide +kernel
theorem dX3_keep_12 : decode cX3_keep 12 = .ok (.iload_n 2, 1) := by decide +kernel
theorem dX3_keep_13 : decode cX3_keep 13 = .ok (.iastore, 1) := by decide +kernel
theorem dX3_keep_14 : decode cX3_keep 14 = .ok (.return_, 1) := by decide +kernel
theorem dX3_has_0 : decode cX3_has 0 = .ok (.iload_n 1, 1) := by decide +kernel
theorem dX3_has_1 : decode cX3_has 1 = .ok (.ifCond .lt 15, 3) := by decide +kernel
theorem dX3_has_4 : decode cX3_has 4 = .ok (.iload_n 1, 1) := by decide +kernel
theorem dX3_has_5 : decode cX3_has 5 = .ok (.aload_n 0, 1) := by decide +kernel
