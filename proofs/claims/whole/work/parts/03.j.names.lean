theorem dX9_claim_143 : decode cX9_claim 143 = .ok (.dup, 1) := by decide +kernel
theorem dX9_claim_144 : decode cX9_claim 144 = .ok (.iconst 3, 1) := by decide +kernel
theorem dX9_claim_145 : decode cX9_claim 145 = .ok (.iload 5, 2) := by decide +kernel
theorem dX9_claim_147 : decode cX9_claim 147 = .ok (.iastore, 1) := by decide +kernel
theorem dX9_claim_148 : decode cX9_claim 148 = .ok (.invokevirtual 147, 3) := by decide +kernel
theorem dX9_claim_151 : decode cX9_claim 151 = .ok (.ifCond .eq 12, 3) := by decide +kernel
theorem dX9_claim_154 : decode cX9_claim 154 = .ok (.aload_n 0, 1) := by decide +kernel
theorem dX9_claim_155 : decode cX9_claim 155 = .ok (.getfield 55, 3) := by decide +kernel
theorem dX9_claim_158 : decode cX9_claim 158 = .ok (.bipush 20, 2) := by decide +kernel
theorem dX9_claim_160 : decode cX9_claim 160 = .ok (.if_icmp .ne 9, 3) := by decide +kernel
theorem dX9_claim_163 : decode cX9_claim 163 = .ok (.aload_n 0, 1) := by decide +kernel
theorem dX9_claim_164 : decode cX9_claim 164 = .ok (.iconst 3, 1) := by decide +kernel
theorem dX9_claim_165 : decode cX9_claim 165 = .ok (.invokevirtual 52, 3) := by decide +kernel
theorem dX9_claim_168 : decode cX9_claim 168 = .ok (.ireturn, 1) := by decide +kernel
theorem dX9_claim_169 : decode cX9_claim 169 = .ok (.iconst 5, 1) := by decide +kernel
theorem dX9_claim_170 : decode cX9_claim 170 = .ok (.newarray .int, 2) := by decide +kernel
theorem dX9_claim_172 : decode cX9_claim 172 = .ok (.dup, 1) := by decide +kernel
theorem dX9_claim_173 : decode cX9_claim 173 = .ok (.iconst 0, 1) := by decide +kernel
theorem dX9_claim_174 : decode cX9_claim 174 = .ok (.iload_n 1, 1) := by decide +kernel
theorem dX9_claim_175 : decode cX9_claim 175 = .ok (.iastore, 1) := by decide +kernel
theorem dX9_claim_176 : decode cX9_claim 176 = .ok (.dup, 1) := by decide +kernel
theorem dX9_claim_177 : decode cX9_claim 177 = .ok (.iconst 1, 1) := by decide +kernel
theorem dX9_claim_178 : decode cX9_claim 178 = .ok (.iload_n 2, 1) := by decide +kernel
theorem dX9_claim_179 : decode cX9_claim 179 = .ok (.iastore, 1) := by decide +kernel
theorem dX9_claim_180 : decode cX9_claim 180 = .ok (.dup, 1) := by decide +kernel
theorem dX9_claim_181 : decode cX9_claim 181 = .ok (.iconst 2, 1) := by decide +kernel
theorem dX9_claim_182 : decode cX9_claim 182 = .ok (.iload_n 3, 1) := by decide +kernel
theorem dX9_claim_183 : decode cX9_claim 183 = .ok (.iastore, 1) := by decide +kernel
theorem dX9_claim_184 : decode cX9_claim 184 = .ok (.dup, 1) := by decide +kernel
theorem dX9_claim_185 : decode cX9_claim 185 = .ok (.iconst 3, 1) := by decide +kernel
theorem dX9_claim_186 : decode cX9_claim 186 = .ok (.iload 4, 2) := by decide +kernel
theorem dX9_claim_188 : decode cX9_claim 188 = .ok (.iastore, 1) := by decide +kernel
theorem dX9_claim_189 : decode cX9_claim 189 = .ok (.dup, 1) := by decide +kernel
theorem dX9_claim_190 : decode cX9_claim 190 = .ok (.iconst 4, 1) := by decide +kernel
theorem dX9_claim_191 : decode cX9_claim 191 = .ok (.iload 5, 2) := by decide +kernel
theorem dX9_claim_193 : decode cX9_claim 193 = .ok (.iastore, 1) := by decide +kernel
theorem dX9_claim_194 : decode cX9_claim 194 = .ok (.astore 8, 2) := by decide +kernel
theorem dX9_claim_196 : decode cX9_claim 196 = .ok (.aload 8, 2) := by decide +kernel
theorem dX9_claim_198 : decode cX9_claim 198 = .ok (.iconst 0, 1) := by decide +kernel
theorem dX9_claim_199 : decode cX9_claim 199 = .ok (.aload_n 0, 1) := by decide +kernel
theorem dX9_claim_200 : decode cX9_claim 200 = .ok (.getfield 17, 3) := by decide +kernel
theorem dX9_claim_203 : decode cX9_claim 203 = .ok (.iconst 5, 1) := by decide +kernel
theorem dX9_claim_204 : decode cX9_claim 204 = .ok (.aload_n 0, 1) := by decide +kernel
theorem dX9_claim_205 : decode cX9_claim 205 = .ok (.getfield 55, 3) := by decide +kernel
theorem dX9_claim_208 : decode cX9_claim 208 = .ok (.imul, 1) := by decide +kernel
theorem dX9_claim_209 : decode cX9_claim 209 = .ok (.iconst 5, 1) := by decide +kernel
theorem dX9_claim_210 : decode cX9_claim 210 = .ok (.invokestatic 121, 3) := by decide +kernel
theorem dX9_claim_213 : decode cX9_claim 213 = .ok (.aload_n 0, 1) := by decide +kernel
theorem dX9_claim_214 : decode cX9_claim 214 = .ok (.dup, 1) := by decide +kernel
theorem dX9_claim_215 : decode cX9_claim 215 = .ok (.getfield 55, 3) := by decide +kernel
theorem dX9_claim_218 : decode cX9_claim 218 = .ok (.iconst 1, 1) := by decide +kernel
theorem dX9_claim_219 : decode cX9_claim 219 = .ok (.iadd, 1) := by decide +kernel
theorem dX9_claim_220 : decode cX9_claim 220 = .ok (.putfield 55, 3) := by decide +kernel
theorem dX9_claim_223 : decode cX9_claim 223 = .ok (.aload_n 0, 1) := by decide +kernel
theorem dX9_claim_224 : decode cX9_claim 224 = .ok (.getfield 55, 3) := by decide +kernel
theorem dX9_claim_227 : decode cX9_claim 227 = .ok (.iconst 1, 1) := by decide +kernel
theorem dX9_claim_228 : decode cX9_claim 228 = .ok (.isub, 1) := by decide +kernel
theorem dX9_claim_229 : decode cX9_claim 229 = .ok (.ireturn, 1) := by decide +kernel
set_option maxRecDepth 20000 in
theorem ggX9_isOnLine_X9_x : GoodIn wsX9_isOnLine wsX9_x := goodIn_r _ [5, 6, 7, 8, 4, 9, 10, 28, 29, 30, 31, 32, 33, 34, 35, 36, 37] rfl (by decide +kernel)
set_option maxRecDepth 20000 in
theorem gX9_isOnLine_X9_x : GoodIn wsX9_isOnLine (wsV RX9 68 RX9 yX9_x wsX9_x) := goodIn_app (goodIn_of _ (by decide +kernel)) ggX9_isOnLine_X9_x
set_option maxRecDepth 20000 in
theorem ggX9_isOnLine_X9_y : GoodIn wsX9_isOnLine wsX9_y := goodIn_r _ [14, 6, 7, 8, 4, 9, 10, 28, 29, 30, 31, 32, 33, 34, 35, 36, 37] rfl (by decide +kernel)
set_option maxRecDepth 20000 in
theorem gX9_isOnLine_X9_y : GoodIn wsX9_isOnLine (wsV RX9 71 RX9 yX9_y wsX9_y) := goodIn_app (goodIn_of _ (by decide +kernel)) ggX9_isOnLine_X9_y
set_option maxRecDepth 20000 in
theorem ggX9_isOnLine_X9_z : GoodIn wsX9_isOnLine wsX9_z := goodIn_r _ [18, 6, 7, 8, 4, 9, 10, 28, 29, 30, 31, 32, 33, 34, 35, 36, 37] rfl (by decide +kernel)
set_option maxRecDepth 20000 in
theorem gX9_isOnLine_X9_z : GoodIn wsX9_isOnLine (wsV RX9 74 RX9 yX9_z wsX9_z) := goodIn_app (goodIn_of _ (by decide +kernel)) ggX9_isOnLine_X9_z
set_option maxRecDepth 20000 in
theorem ggX9_isOnLine_X9_mod : GoodIn wsX9_isOnLine wsX9_mod := goodIn_r _ [22, 23, 24, 25, 26, 27, 28, 29, 30, 31, 32, 33, 34, 35, 36, 37] rfl (by decide +kernel)
set_option maxRecDepth 20000 in
theorem gX9_isOnLine_X9_mod : GoodIn wsX9_isOnLine (wsV RX9 48 RX9 yX9_mod wsX9_mod) := goodIn_app (goodIn_of _ (by decide +kernel)) ggX9_isOnLine_X9_mod
theorem dX9_isOnLine_0 : decode cX9_isOnLine 0 = .ok (.aload_n 0, 1) := by decide +kernel
theorem dX9_isOnLine_1 : decode cX9_isOnLine 1 = .ok (.aload_n 0, 1) := by decide +kernel
theorem dX9_isOnLine_2 : decode cX9_isOnLine 2 = .ok (.iload_n 1, 1) := by decide +kernel
theorem dX9_isOnLine_3 : decode cX9_isOnLine 3 = .ok (.invokevirtual 68, 3) := by decide +kernel
theorem dX9_isOnLine_6 : decode cX9_isOnLine 6 = .ok (.iload_n 2, 1) := by decide +kernel
theorem dX9_isOnLine_7 : decode cX9_isOnLine 7 = .ok (.imul, 1) := by decide +kernel
theorem dX9_isOnLine_8 : decode cX9_isOnLine 8 = .ok (.aload_n 0, 1) := by decide +kernel
theorem dX9_isOnLine_9 : decode cX9_isOnLine 9 = .ok (.iload_n 1, 1) := by decide +kernel
theorem dX9_isOnLine_10 : decode cX9_isOnLine 10 = .ok (.invokevirtual 71, 3) := by decide +kernel
theorem dX9_isOnLine_13 : decode cX9_isOnLine 13 = .ok (.iload_n 3, 1) := by decide +kernel
theorem dX9_isOnLine_14 : decode cX9_isOnLine 14 = .ok (.imul, 1) := by decide +kernel
theorem dX9_isOnLine_15 : decode cX9_isOnLine 15 = .ok (.iadd, 1) := by decide +kernel
theorem dX9_isOnLine_16 : decode cX9_isOnLine 16 = .ok (.aload_n 0, 1) := by decide +kernel
theorem dX9_isOnLine_17 : decode cX9_isOnLine 17 = .ok (.iload_n 1, 1) := by decide +kernel
theorem dX9_isOnLine_18 : decode cX9_isOnLine 18 = .ok (.invokevirtual 74, 3) := by decide +kernel
theorem dX9_isOnLine_21 : decode cX9_isOnLine 21 = .ok (.iadd, 1) := by decide +kernel
theorem dX9_isOnLine_22 : decode cX9_isOnLine 22 = .ok (.invokevirtual 48, 3) := by decide +kernel
theorem dX9_isOnLine_25 : decode cX9_isOnLine 25 = .ok (.ifCond .ne 7, 3) := by decide +kernel
theorem dX9_isOnLine_28 : decode cX9_isOnLine 28 = .ok (.iconst 1, 1) := by decide +kernel
theorem dX9_isOnLine_29 : decode cX9_isOnLine 29 = .ok (.goto 4, 3) := by decide +kernel
theorem dX9_isOnLine_32 : decode cX9_isOnLine 32 = .ok (.iconst 0, 1) := by decide +kernel
theorem dX9_isOnLine_33 : decode cX9_isOnLine 33 = .ok (.ireturn, 1) := by decide +kernel
set_option maxRecDepth 20000 in
theorem ggX9_areSame_X9_x : GoodIn wsX9_areSame wsX9_x := goodIn_r _ [5, 6, 7, 8, 4, 9, 10, 19, 20, 21, 22, 23, 24, 25, 26, 27, 28] rfl (by decide +kernel)
set_option maxRecDepth 20000 in
theorem gX9_areSame_X9_x : GoodIn wsX9_areSame (wsV RX9 68 RX9 yX9_x wsX9_x) := goodIn_app (goodIn_of _ (by decide +kernel)) ggX9_areSame_X9_x
set_option maxRecDepth 20000 in
theorem ggX9_areSame_X9_y : GoodIn wsX9_areSame wsX9_y := goodIn_r _ [14, 6, 7, 8, 4, 9, 10, 19, 20, 21, 22, 23, 24, 25, 26, 27, 28] rfl (by decide +kernel)
set_option maxRecDepth 20000 in
theorem gX9_areSame_X9_y : GoodIn wsX9_areSame (wsV RX9 71 RX9 yX9_y wsX9_y) := goodIn_app (goodIn_of _ (by decide +kernel)) ggX9_areSame_X9_y
set_option maxRecDepth 20000 in
theorem ggX9_areSame_X9_z : GoodIn wsX9_areSame wsX9_z := goodIn_r _ [18, 6, 7, 8, 4, 9, 10, 19, 20, 21, 22, 23, 24, 25, 26, 27, 28] rfl (by decide +kernel)
set_option maxRecDepth 20000 in
theorem gX9_areSame_X9_z : GoodIn wsX9_areSame (wsV RX9 74 RX9 yX9_z wsX9_z) := goodIn_app (goodIn_of _ (by decide +kernel)) ggX9_areSame_X9_z
theorem dX9_areSame_0 : decode cX9_areSame 0 = .ok (.aload_n 0, 1) := by decide +kernel
theorem dX9_areSame_1 : decode cX9_areSame 1 = .ok (.iload_n 1, 1) := by decide +kernel
theorem dX9_areSame_2 : decode cX9_areSame 2 = .ok (.invokevirtual 68, 3) := by decide +kernel
theorem dX9_areSame_5 : decode cX9_areSame 5 = .ok (.aload_n 0, 1) := by decide +kernel
theorem dX9_areSame_6 : decode cX9_areSame 6 = .ok (.iload_n 2, 1) := by decide +kernel
theorem dX9_areSame_7 : decode cX9_areSame 7 = .ok (.invokevirtual 68, 3) := by decide +kernel
theorem dX9_areSame_10 : decode cX9_areSame 10 = .ok (.if_icmp .ne 33, 3) := by decide +kernel
theorem dX9_areSame_13 : decode cX9_areSame 13 = .ok (.aload_n 0, 1) := by decide +kernel
theorem dX9_areSame_14 : decode cX9_areSame 14 = .ok (.iload_n 1, 1) := by decide +kernel
theorem dX9_areSame_15 : decode cX9_areSame 15 = .ok (.invokevirtual 71, 3) := by decide +kernel
theorem dX9_areSame_18 : decode cX9_areSame 18 = .ok (.aload_n 0, 1) := by decide +kernel
theorem dX9_areSame_19 : decode cX9_areSame 19 = .ok (.iload_n 2, 1) := by decide +kernel
theorem dX9_areSame_20 : decode cX9_areSame 20 = .ok (.invokevirtual 71, 3) := by decide +kernel
theorem dX9_areSame_23 : decode cX9_areSame 23 = .ok (.if_icmp .ne 20, 3) := by decide +kernel
theorem dX9_areSame_26 : decode cX9_areSame 26 = .ok (.aload_n 0, 1) := by decide +kernel
theorem dX9_areSame_27 : decode cX9_areSame 27 = .ok (.iload_n 1, 1) := by decide +kernel
theorem dX9_areSame_28 : decode cX9_areSame 28 = .ok (.invokevirtual 74, 3) := by decide +kernel
theorem dX9_areSame_31 : decode cX9_areSame 31 = .ok (.aload_n 0, 1) := by decide +kernel
theorem dX9_areSame_32 : decode cX9_areSame 32 = .ok (.iload_n 2, 1) := by decide +kernel
theorem dX9_areSame_33 : decode cX9_areSame 33 = .ok (.invokevirtual 74, 3) := by decide +kernel
theorem dX9_areSame_36 : decode cX9_areSame 36 = .ok (.if_icmp .ne 7, 3) := by decide +kernel
theorem dX9_areSame_39 : decode cX9_areSame 39 = .ok (.iconst 1, 1) := by decide +kernel
theorem dX9_areSame_40 : decode cX9_areSame 40 = .ok (.goto 4, 3) := by decide +kernel
theorem dX9_areSame_43 : decode cX9_areSame 43 = .ok (.iconst 0, 1) := by decide +kernel
theorem dX9_areSame_44 : decode cX9_areSame 44 = .ok (.ireturn, 1) := by decide +kernel
set_option maxRecDepth 20000 in
theorem ggX9_haveCommon_X9_onLine : GoodIn wsX9_haveCommon wsX9_onLine := goodIn_r _ [7, 8, 9, 10, 6, 11, 12, 13, 14, 15, 16, 17, 18, 19, 20, 21, 22, 23, 24, 25, 26, 27, 28, 2, 29, 30, 31, 32, 1, 33, 34, 35, 36, 37, 38, 39, 40, 45, 46, 47, 48, 49, 50, 51, 52, 53, 54] rfl (by decide +kernel)
set_option maxRecDepth 20000 in
theorem gX9_haveCommon_X9_onLine : GoodIn wsX9_haveCommon (wsV RX9 95 RX9 yX9_onLine wsX9_onLine) := goodIn_app (goodIn_of _ (by decide +kernel)) ggX9_haveCommon_X9_onLine
set_option maxRecDepth 20000 in
theorem ggX9_haveCommon_X9_isOnLine : GoodIn wsX9_haveCommon wsX9_isOnLine := goodIn_r _ [44, 8, 9, 10, 6, 11, 12, 13, 14, 15, 16, 17, 18, 19, 20, 21, 22, 23, 24, 29, 30, 31, 32, 1, 33, 34, 35, 36, 45, 46, 47, 48, 49, 50, 51, 52, 53, 54] rfl (by decide +kernel)
set_option maxRecDepth 20000 in
theorem gX9_haveCommon_X9_isOnLine : GoodIn wsX9_haveCommon (wsV RX9 161 RX9 yX9_isOnLine wsX9_isOnLine) := goodIn_app (goodIn_of _ (by decide +kernel)) ggX9_haveCommon_X9_isOnLine
theorem dX9_haveCommon_0 : decode cX9_haveCommon 0 = .ok (.iconst 0, 1) := by decide +kernel
theorem dX9_haveCommon_1 : decode cX9_haveCommon 1 = .ok (.istore 4, 2) := by decide +kernel
theorem dX9_haveCommon_3 : decode cX9_haveCommon 3 = .ok (.iload 4, 2) := by decide +kernel
theorem dX9_haveCommon_5 : decode cX9_haveCommon 5 = .ok (.aload_n 0, 1) := by decide +kernel
theorem dX9_haveCommon_6 : decode cX9_haveCommon 6 = .ok (.getfield 7, 3) := by decide +kernel
theorem dX9_haveCommon_9 : decode cX9_haveCommon 9 = .ok (.if_icmp .ge 59, 3) := by decide +kernel
theorem dX9_haveCommon_12 : decode cX9_haveCommon 12 = .ok (.aload_n 0, 1) := by decide +kernel
theorem dX9_haveCommon_13 : decode cX9_haveCommon 13 = .ok (.iload_n 1, 1) := by decide +kernel
theorem dX9_haveCommon_14 : decode cX9_haveCommon 14 = .ok (.iload 4, 2) := by decide +kernel
theorem dX9_haveCommon_16 : decode cX9_haveCommon 16 = .ok (.invokevirtual 95, 3) := by decide +kernel
theorem dX9_haveCommon_19 : decode cX9_haveCommon 19 = .ok (.pop, 1) := by decide +kernel
theorem dX9_haveCommon_20 : decode cX9_haveCommon 20 = .ok (.aload_n 0, 1) := by decide +kernel
theorem dX9_haveCommon_21 : decode cX9_haveCommon 21 = .ok (.getfield 20, 3) := by decide +kernel
theorem dX9_haveCommon_24 : decode cX9_haveCommon 24 = .ok (.iconst 0, 1) := by decide +kernel
theorem dX9_haveCommon_25 : decode cX9_haveCommon 25 = .ok (.iaload, 1) := by decide +kernel
theorem dX9_haveCommon_26 : decode cX9_haveCommon 26 = .ok (.istore 5, 2) := by decide +kernel
theorem dX9_haveCommon_28 : decode cX9_haveCommon 28 = .ok (.aload_n 0, 1) := by decide +kernel
theorem dX9_haveCommon_29 : decode cX9_haveCommon 29 = .ok (.getfield 20, 3) := by decide +kernel
theorem dX9_haveCommon_32 : decode cX9_haveCommon 32 = .ok (.iconst 1, 1) := by decide +kernel
theorem dX9_haveCommon_33 : decode cX9_haveCommon 33 = .ok (.iaload, 1) := by decide +kernel
theorem dX9_haveCommon_34 : decode cX9_haveCommon 34 = .ok (.istore 6, 2) := by decide +kernel
theorem dX9_haveCommon_36 : decode cX9_haveCommon 36 = .ok (.aload_n 0, 1) := by decide +kernel
theorem dX9_haveCommon_37 : decode cX9_haveCommon 37 = .ok (.iload_n 2, 1) := by decide +kernel
theorem dX9_haveCommon_38 : decode cX9_haveCommon 38 = .ok (.iload 5, 2) := by decide +kernel
theorem dX9_haveCommon_40 : decode cX9_haveCommon 40 = .ok (.iload 6, 2) := by decide +kernel
theorem dX9_haveCommon_42 : decode cX9_haveCommon 42 = .ok (.invokevirtual 161, 3) := by decide +kernel
theorem dX9_haveCommon_45 : decode cX9_haveCommon 45 = .ok (.ifCond .eq 17, 3) := by decide +kernel
theorem dX9_haveCommon_48 : decode cX9_haveCommon 48 = .ok (.aload_n 0, 1) := by decide +kernel
theorem dX9_haveCommon_49 : decode cX9_haveCommon 49 = .ok (.iload_n 3, 1) := by decide +kernel
theorem dX9_haveCommon_50 : decode cX9_haveCommon 50 = .ok (.iload 5, 2) := by decide +kernel
theorem dX9_haveCommon_52 : decode cX9_haveCommon 52 = .ok (.iload 6, 2) := by decide +kernel
theorem dX9_haveCommon_54 : decode cX9_haveCommon 54 = .ok (.invokevirtual 161, 3) := by decide +kernel
theorem dX9_haveCommon_57 : decode cX9_haveCommon 57 = .ok (.ifCond .eq 5, 3) := by decide +kernel
theorem dX9_haveCommon_60 : decode cX9_haveCommon 60 = .ok (.iconst 1, 1) := by decide +kernel
theorem dX9_haveCommon_61 : decode cX9_haveCommon 61 = .ok (.ireturn, 1) := by decide +kernel
theorem dX9_haveCommon_62 : decode cX9_haveCommon 62 = .ok (.iinc 4 1, 3) := by decide +kernel
theorem dX9_haveCommon_65 : decode cX9_haveCommon 65 = .ok (.goto (-62), 3) := by decide +kernel
theorem dX9_haveCommon_68 : decode cX9_haveCommon 68 = .ok (.iconst 0, 1) := by decide +kernel
theorem dX9_haveCommon_69 : decode cX9_haveCommon 69 = .ok (.ireturn, 1) := by decide +kernel
set_option maxRecDepth 20000 in
theorem ggX9_isTrue_X9_x : GoodIn wsX9_isTrue wsX9_x := goodIn_r _ [5, 6, 7, 8, 4, 9, 10, 61, 62, 63, 64, 65, 66, 67, 68, 69, 70] rfl (by decide +kernel)
set_option maxRecDepth 20000 in
theorem gX9_isTrue_X9_x : GoodIn wsX9_isTrue (wsV RX9 68 RX9 yX9_x wsX9_x) := goodIn_app (goodIn_of _ (by decide +kernel)) ggX9_isTrue_X9_x
set_option maxRecDepth 20000 in
theorem ggX9_isTrue_X9_y : GoodIn wsX9_isTrue wsX9_y := goodIn_r _ [14, 6, 7, 8, 4, 9, 10, 61, 62, 63, 64, 65, 66, 67, 68, 69, 70] rfl (by decide +kernel)
set_option maxRecDepth 20000 in
theorem gX9_isTrue_X9_y : GoodIn wsX9_isTrue (wsV RX9 71 RX9 yX9_y wsX9_y) := goodIn_app (goodIn_of _ (by decide +kernel)) ggX9_isTrue_X9_y
set_option maxRecDepth 20000 in
theorem ggX9_isTrue_X9_isOnLine : GoodIn wsX9_isTrue wsX9_isOnLine := goodIn_r _ [18, 1, 2, 3, 4, 5, 6, 7, 8, 9, 10, 11, 12, 13, 14, 19, 20, 21, 22, 23, 24, 25, 26, 27, 28, 29, 30, 31, 61, 62, 63, 64, 65, 66, 67, 68, 69, 70] rfl (by decide +kernel)
set_option maxRecDepth 20000 in
theorem gX9_isTrue_X9_isOnLine : GoodIn wsX9_isTrue (wsV RX9 161 RX9 yX9_isOnLine wsX9_isOnLine) := goodIn_app (goodIn_of _ (by decide +kernel)) ggX9_isTrue_X9_isOnLine
set_option maxRecDepth 20000 in
theorem ggX9_isTrue_X9_squareOf : GoodIn wsX9_isTrue wsX9_squareOf := goodIn_r _ [35, 23, 24, 25, 4, 26, 27, 28, 29, 30, 31, 61, 62, 63, 64, 65, 66, 67, 68, 69, 70] rfl (by decide +kernel)
set_option maxRecDepth 20000 in
theorem gX9_isTrue_X9_squareOf : GoodIn wsX9_isTrue (wsV RX9 64 RX9 yX9_squareOf wsX9_squareOf) := goodIn_app (goodIn_of _ (by decide +kernel)) ggX9_isTrue_X9_squareOf
set_option maxRecDepth 20000 in
theorem ggX9_isTrue_X9_z : GoodIn wsX9_isTrue wsX9_z := goodIn_r _ [22, 6, 7, 8, 4, 9, 10, 61, 62, 63, 64, 65, 66, 67, 68, 69, 70] rfl (by decide +kernel)
set_option maxRecDepth 20000 in
theorem gX9_isTrue_X9_z : GoodIn wsX9_isTrue (wsV RX9 74 RX9 yX9_z wsX9_z) := goodIn_app (goodIn_of _ (by decide +kernel)) ggX9_isTrue_X9_z
set_option maxRecDepth 20000 in
theorem ggX9_isTrue_X9_areInLine : GoodIn wsX9_isTrue wsX9_areInLine := goodIn_r _ [39, 1, 2, 3, 4, 5, 6, 7, 8, 9, 10, 11, 12, 13, 14, 23, 24, 25, 26, 27, 28, 29, 30, 31, 61, 62, 63, 64, 65, 66, 67, 68, 69, 70] rfl (by decide +kernel)
set_option maxRecDepth 20000 in
theorem gX9_isTrue_X9_areInLine : GoodIn wsX9_isTrue (wsV RX9 84 RX9 yX9_areInLine wsX9_areInLine) := goodIn_app (goodIn_of _ (by decide +kernel)) ggX9_isTrue_X9_areInLine
set_option maxRecDepth 20000 in
theorem ggX9_isTrue_X9_mod : GoodIn wsX9_isTrue wsX9_mod := goodIn_r _ [26, 27, 28, 29, 30, 31, 61, 62, 63, 64, 65, 66, 67, 68, 69, 70] rfl (by decide +kernel)
set_option maxRecDepth 20000 in
theorem gX9_isTrue_X9_mod : GoodIn wsX9_isTrue (wsV RX9 48 RX9 yX9_mod wsX9_mod) := goodIn_app (goodIn_of _ (by decide +kernel)) ggX9_isTrue_X9_mod
set_option maxRecDepth 20000 in
theorem ggX9_isTrue_X9_areSame : GoodIn wsX9_isTrue wsX9_areSame := goodIn_r _ [43, 1, 2, 3, 4, 5, 6, 7, 8, 9, 10, 11, 12, 13, 14, 19, 20, 21, 22, 61, 62, 63, 64, 65, 66, 67, 68, 69, 70] rfl (by decide +kernel)
set_option maxRecDepth 20000 in
theorem gX9_isTrue_X9_areSame : GoodIn wsX9_isTrue (wsV RX9 164 RX9 yX9_areSame wsX9_areSame) := goodIn_app (goodIn_of _ (by decide +kernel)) ggX9_isTrue_X9_areSame
set_option maxRecDepth 20000 in
theorem ggX9_isTrue_X9_haveCommon : GoodIn wsX9_isTrue wsX9_haveCommon := goodIn_r _ [47, 27, 48, 49, 50, 51, 4, 52, 1, 2, 3, 5, 6, 7, 8, 9, 10, 11, 12, 13, 14, 19, 20, 21, 22, 53, 54, 55, 56, 23, 24, 25, 26, 28, 29, 30, 31, 57, 58, 59, 60, 15, 16, 17, 18, 61, 62, 63, 64, 65, 66, 67, 68, 69, 70] rfl (by decide +kernel)
set_option maxRecDepth 20000 in
theorem gX9_isTrue_X9_haveCommon : GoodIn wsX9_isTrue (wsV RX9 167 RX9 yX9_haveCommon wsX9_haveCommon) := goodIn_app (goodIn_of _ (by decide +kernel)) ggX9_isTrue_X9_haveCommon
theorem dX9_isTrue_0 : decode cX9_isTrue 0 = .ok (.iload_n 1, 1) := by decide +kernel
theorem dX9_isTrue_1 : decode cX9_isTrue 1 = .ok (.tableswitch 242 0 6 #[43, 59, 97, 106, 138, 174, 235], 43) := by decide +kernel
theorem dX9_isTrue_44 : decode cX9_isTrue 44 = .ok (.aload_n 0, 1) := by decide +kernel
theorem dX9_isTrue_45 : decode cX9_isTrue 45 = .ok (.iload_n 3, 1) := by decide +kernel
theorem dX9_isTrue_46 : decode cX9_isTrue 46 = .ok (.aload_n 0, 1) := by decide +kernel
theorem dX9_isTrue_47 : decode cX9_isTrue 47 = .ok (.iload_n 2, 1) := by decide +kernel
theorem dX9_isTrue_48 : decode cX9_isTrue 48 = .ok (.invokevirtual 68, 3) := by decide +kernel
theorem dX9_isTrue_51 : decode cX9_isTrue 51 = .ok (.aload_n 0, 1) := by decide +kernel
theorem dX9_isTrue_52 : decode cX9_isTrue 52 = .ok (.iload_n 2, 1) := by decide +kernel
theorem dX9_isTrue_53 : decode cX9_isTrue 53 = .ok (.invokevirtual 71, 3) := by decide +kernel
theorem dX9_isTrue_56 : decode cX9_isTrue 56 = .ok (.invokevirtual 161, 3) := by decide +kernel
theorem dX9_isTrue_59 : decode cX9_isTrue 59 = .ok (.ireturn, 1) := by decide +kernel
theorem dX9_isTrue_60 : decode cX9_isTrue 60 = .ok (.aload_n 0, 1) := by decide +kernel
theorem dX9_isTrue_61 : decode cX9_isTrue 61 = .ok (.aload_n 0, 1) := by decide +kernel
theorem dX9_isTrue_62 : decode cX9_isTrue 62 = .ok (.iload_n 2, 1) := by decide +kernel
theorem dX9_isTrue_63 : decode cX9_isTrue 63 = .ok (.invokevirtual 68, 3) := by decide +kernel
theorem dX9_isTrue_66 : decode cX9_isTrue 66 = .ok (.aload_n 0, 1) := by decide +kernel
theorem dX9_isTrue_67 : decode cX9_isTrue 67 = .ok (.iload_n 2, 1) := by decide +kernel
theorem dX9_isTrue_68 : decode cX9_isTrue 68 = .ok (.invokevirtual 71, 3) := by decide +kernel
theorem dX9_isTrue_71 : decode cX9_isTrue 71 = .ok (.aload_n 0, 1) := by decide +kernel
theorem dX9_isTrue_72 : decode cX9_isTrue 72 = .ok (.iload_n 3, 1) := by decide +kernel
theorem dX9_isTrue_73 : decode cX9_isTrue 73 = .ok (.invokevirtual 68, 3) := by decide +kernel
theorem dX9_isTrue_76 : decode cX9_isTrue 76 = .ok (.aload_n 0, 1) := by decide +kernel
theorem dX9_isTrue_77 : decode cX9_isTrue 77 = .ok (.iload_n 3, 1) := by decide +kernel
theorem dX9_isTrue_78 : decode cX9_isTrue 78 = .ok (.invokevirtual 71, 3) := by decide +kernel
theorem dX9_isTrue_81 : decode cX9_isTrue 81 = .ok (.invokevirtual 64, 3) := by decide +kernel
theorem dX9_isTrue_84 : decode cX9_isTrue 84 = .ok (.aload_n 0, 1) := by decide +kernel
theorem dX9_isTrue_85 : decode cX9_isTrue 85 = .ok (.iload_n 3, 1) := by decide +kernel
theorem dX9_isTrue_86 : decode cX9_isTrue 86 = .ok (.invokevirtual 74, 3) := by decide +kernel
theorem dX9_isTrue_89 : decode cX9_isTrue 89 = .ok (.if_icmp .ne 7, 3) := by decide +kernel
theorem dX9_isTrue_92 : decode cX9_isTrue 92 = .ok (.iconst 1, 1) := by decide +kernel
theorem dX9_isTrue_93 : decode cX9_isTrue 93 = .ok (.goto 4, 3) := by decide +kernel
theorem dX9_isTrue_96 : decode cX9_isTrue 96 = .ok (.iconst 0, 1) := by decide +kernel
theorem dX9_isTrue_97 : decode cX9_isTrue 97 = .ok (.ireturn, 1) := by decide +kernel
theorem dX9_isTrue_98 : decode cX9_isTrue 98 = .ok (.aload_n 0, 1) := by decide +kernel
theorem dX9_isTrue_99 : decode cX9_isTrue 99 = .ok (.iload_n 2, 1) := by decide +kernel
theorem dX9_isTrue_100 : decode cX9_isTrue 100 = .ok (.iload_n 3, 1) := by decide +kernel
theorem dX9_isTrue_101 : decode cX9_isTrue 101 = .ok (.iload 4, 2) := by decide +kernel
theorem dX9_isTrue_103 : decode cX9_isTrue 103 = .ok (.invokevirtual 84, 3) := by decide +kernel
theorem dX9_isTrue_106 : decode cX9_isTrue 106 = .ok (.ireturn, 1) := by decide +kernel
theorem dX9_isTrue_107 : decode cX9_isTrue 107 = .ok (.aload_n 0, 1) := by decide +kernel
theorem dX9_isTrue_108 : decode cX9_isTrue 108 = .ok (.iload_n 2, 1) := by decide +kernel
theorem dX9_isTrue_109 : decode cX9_isTrue 109 = .ok (.invokevirtual 68, 3) := by decide +kernel
theorem dX9_isTrue_112 : decode cX9_isTrue 112 = .ok (.aload_n 0, 1) := by decide +kernel
theorem dX9_isTrue_113 : decode cX9_isTrue 113 = .ok (.iload_n 3, 1) := by decide +kernel
theorem dX9_isTrue_114 : decode cX9_isTrue 114 = .ok (.invokevirtual 68, 3) := by decide +kernel
theorem dX9_isTrue_117 : decode cX9_isTrue 117 = .ok (.if_icmp .ne 20, 3) := by decide +kernel
theorem dX9_isTrue_120 : decode cX9_isTrue 120 = .ok (.aload_n 0, 1) := by decide +kernel
theorem dX9_isTrue_121 : decode cX9_isTrue 121 = .ok (.iload_n 2, 1) := by decide +kernel
theorem dX9_isTrue_122 : decode cX9_isTrue 122 = .ok (.invokevirtual 71, 3) := by decide +kernel
theorem dX9_isTrue_125 : decode cX9_isTrue 125 = .ok (.aload_n 0, 1) := by decide +kernel
theorem dX9_isTrue_126 : decode cX9_isTrue 126 = .ok (.iload_n 3, 1) := by decide +kernel
theorem dX9_isTrue_127 : decode cX9_isTrue 127 = .ok (.invokevirtual 71, 3) := by decide +kernel
theorem dX9_isTrue_130 : decode cX9_isTrue 130 = .ok (.if_icmp .ne 7, 3) := by decide +kernel
theorem dX9_isTrue_133 : decode cX9_isTrue 133 = .ok (.iconst 1, 1) := by decide +kernel
theorem dX9_isTrue_134 : decode cX9_isTrue 134 = .ok (.goto 4, 3) := by decide +kernel
theorem dX9_isTrue_137 : decode cX9_isTrue 137 = .ok (.iconst 0, 1) := by decide +kernel
theorem dX9_isTrue_138 : decode cX9_isTrue 138 = .ok (.ireturn, 1) := by decide +kernel
theorem dX9_isTrue_139 : decode cX9_isTrue 139 = .ok (.aload_n 0, 1) := by decide +kernel
theorem dX9_isTrue_140 : decode cX9_isTrue 140 = .ok (.aload_n 0, 1) := by decide +kernel
theorem dX9_isTrue_141 : decode cX9_isTrue 141 = .ok (.iload_n 2, 1) := by decide +kernel
theorem dX9_isTrue_142 : decode cX9_isTrue 142 = .ok (.invokevirtual 68, 3) := by decide +kernel
theorem dX9_isTrue_145 : decode cX9_isTrue 145 = .ok (.aload_n 0, 1) := by decide +kernel
theorem dX9_isTrue_146 : decode cX9_isTrue 146 = .ok (.iload_n 3, 1) := by decide +kernel
theorem dX9_isTrue_147 : decode cX9_isTrue 147 = .ok (.invokevirtual 68, 3) := by decide +kernel
theorem dX9_isTrue_150 : decode cX9_isTrue 150 = .ok (.imul, 1) := by decide +kernel
theorem dX9_isTrue_151 : decode cX9_isTrue 151 = .ok (.aload_n 0, 1) := by decide +kernel
theorem dX9_isTrue_152 : decode cX9_isTrue 152 = .ok (.iload_n 2, 1) := by decide +kernel
theorem dX9_isTrue_153 : decode cX9_isTrue 153 = .ok (.invokevirtual 71, 3) := by decide +kernel
theorem dX9_isTrue_156 : decode cX9_isTrue 156 = .ok (.aload_n 0, 1) := by decide +kernel
theorem dX9_isTrue_157 : decode cX9_isTrue 157 = .ok (.iload_n 3, 1) := by decide +kernel
theorem dX9_isTrue_158 : decode cX9_isTrue 158 = .ok (.invokevirtual 71, 3) := by decide +kernel
theorem dX9_isTrue_161 : decode cX9_isTrue 161 = .ok (.imul, 1) := by decide +kernel
theorem dX9_isTrue_162 : decode cX9_isTrue 162 = .ok (.iadd, 1) := by decide +kernel
theorem dX9_isTrue_163 : decode cX9_isTrue 163 = .ok (.invokevirtual 48, 3) := by decide +kernel
theorem dX9_isTrue_166 : decode cX9_isTrue 166 = .ok (.ifCond .ne 7, 3) := by decide +kernel
theorem dX9_isTrue_169 : decode cX9_isTrue 169 = .ok (.iconst 1, 1) := by decide +kernel
theorem dX9_isTrue_170 : decode cX9_isTrue 170 = .ok (.goto 4, 3) := by decide +kernel
theorem dX9_isTrue_173 : decode cX9_isTrue 173 = .ok (.iconst 0, 1) := by decide +kernel
theorem dX9_isTrue_174 : decode cX9_isTrue 174 = .ok (.ireturn, 1) := by decide +kernel
theorem dX9_isTrue_175 : decode cX9_isTrue 175 = .ok (.aload_n 0, 1) := by decide +kernel
theorem dX9_isTrue_176 : decode cX9_isTrue 176 = .ok (.aload_n 0, 1) := by decide +kernel
theorem dX9_isTrue_177 : decode cX9_isTrue 177 = .ok (.iload_n 2, 1) := by decide +kernel
theorem dX9_isTrue_178 : decode cX9_isTrue 178 = .ok (.invokevirtual 68, 3) := by decide +kernel
theorem dX9_isTrue_181 : decode cX9_isTrue 181 = .ok (.aload_n 0, 1) := by decide +kernel
theorem dX9_isTrue_182 : decode cX9_isTrue 182 = .ok (.iload_n 2, 1) := by decide +kernel
theorem dX9_isTrue_183 : decode cX9_isTrue 183 = .ok (.invokevirtual 71, 3) := by decide +kernel
theorem dX9_isTrue_186 : decode cX9_isTrue 186 = .ok (.aload_n 0, 1) := by decide +kernel
theorem dX9_isTrue_187 : decode cX9_isTrue 187 = .ok (.iload_n 3, 1) := by decide +kernel
theorem dX9_isTrue_188 : decode cX9_isTrue 188 = .ok (.invokevirtual 68, 3) := by decide +kernel
theorem dX9_isTrue_191 : decode cX9_isTrue 191 = .ok (.aload_n 0, 1) := by decide +kernel
theorem dX9_isTrue_192 : decode cX9_isTrue 192 = .ok (.iload_n 3, 1) := by decide +kernel
theorem dX9_isTrue_193 : decode cX9_isTrue 193 = .ok (.invokevirtual 71, 3) := by decide +kernel
theorem dX9_isTrue_196 : decode cX9_isTrue 196 = .ok (.invokevirtual 64, 3) := by decide +kernel
theorem dX9_isTrue_199 : decode cX9_isTrue 199 = .ok (.aload_n 0, 1) := by decide +kernel
theorem dX9_isTrue_200 : decode cX9_isTrue 200 = .ok (.aload_n 0, 1) := by decide +kernel
theorem dX9_isTrue_201 : decode cX9_isTrue 201 = .ok (.iload 4, 2) := by decide +kernel
theorem dX9_isTrue_203 : decode cX9_isTrue 203 = .ok (.invokevirtual 68, 3) := by decide +kernel
theorem dX9_isTrue_206 : decode cX9_isTrue 206 = .ok (.aload_n 0, 1) := by decide +kernel
theorem dX9_isTrue_207 : decode cX9_isTrue 207 = .ok (.iload 4, 2) := by decide +kernel
theorem dX9_isTrue_209 : decode cX9_isTrue 209 = .ok (.invokevirtual 71, 3) := by decide +kernel
theorem dX9_isTrue_212 : decode cX9_isTrue 212 = .ok (.aload_n 0, 1) := by decide +kernel
theorem dX9_isTrue_213 : decode cX9_isTrue 213 = .ok (.iload 5, 2) := by decide +kernel
theorem dX9_isTrue_215 : decode cX9_isTrue 215 = .ok (.invokevirtual 68, 3) := by decide +kernel
theorem dX9_isTrue_218 : decode cX9_isTrue 218 = .ok (.aload_n 0, 1) := by decide +kernel
theorem dX9_isTrue_219 : decode cX9_isTrue 219 = .ok (.iload 5, 2) := by decide +kernel
theorem dX9_isTrue_221 : decode cX9_isTrue 221 = .ok (.invokevirtual 71, 3) := by decide +kernel
theorem dX9_isTrue_224 : decode cX9_isTrue 224 = .ok (.invokevirtual 64, 3) := by decide +kernel
theorem dX9_isTrue_227 : decode cX9_isTrue 227 = .ok (.if_icmp .ne 7, 3) := by decide +kernel
theorem dX9_isTrue_230 : decode cX9_isTrue 230 = .ok (.iconst 1, 1) := by decide +kernel
theorem dX9_isTrue_231 : decode cX9_isTrue 231 = .ok (.goto 4, 3) := by decide +kernel
theorem dX9_isTrue_234 : decode cX9_isTrue 234 = .ok (.iconst 0, 1) := by decide +kernel
theorem dX9_isTrue_235 : decode cX9_isTrue 235 = .ok (.ireturn, 1) := by decide +kernel
theorem dX9_isTrue_236 : decode cX9_isTrue 236 = .ok (.aload_n 0, 1) := by decide +kernel
theorem dX9_isTrue_237 : decode cX9_isTrue 237 = .ok (.iload_n 2, 1) := by decide +kernel
theorem dX9_isTrue_238 : decode cX9_isTrue 238 = .ok (.iload_n 3, 1) := by decide +kernel
theorem dX9_isTrue_239 : decode cX9_isTrue 239 = .ok (.invokevirtual 164, 3) := by decide +kernel
theorem dX9_isTrue_242 : decode cX9_isTrue 242 = .ok (.ireturn, 1) := by decide +kernel
theorem dX9_isTrue_243 : decode cX9_isTrue 243 = .ok (.aload_n 0, 1) := by decide +kernel
theorem dX9_isTrue_244 : decode cX9_isTrue 244 = .ok (.iload_n 2, 1) := by decide +kernel
theorem dX9_isTrue_245 : decode cX9_isTrue 245 = .ok (.iload_n 3, 1) := by decide +kernel
theorem dX9_isTrue_246 : decode cX9_isTrue 246 = .ok (.iload 4, 2) := by decide +kernel
theorem dX9_isTrue_248 : decode cX9_isTrue 248 = .ok (.invokevirtual 167, 3) := by decide +kernel
theorem dX9_isTrue_251 : decode cX9_isTrue 251 = .ok (.ireturn, 1) := by decide +kernel
set_option maxRecDepth 20000 in
theorem ggX9_verdict_X9_lacks : GoodIn wsX9_verdict wsX9_lacks := goodIn_r _ [7, 8, 9, 10, 6, 11, 12, 71, 72, 73, 74, 75, 76, 77, 78, 79, 80] rfl (by decide +kernel)
set_option maxRecDepth 20000 in
theorem gX9_verdict_X9_lacks : GoodIn wsX9_verdict (wsV RX9 111 RX9 yX9_lacks wsX9_lacks) := goodIn_app (goodIn_of _ (by decide +kernel)) ggX9_verdict_X9_lacks
set_option maxRecDepth 20000 in
theorem ggX9_verdict_X9_isTrue : GoodIn wsX9_verdict wsX9_isTrue := goodIn_r _ [16, 17, 18, 19, 6, 20, 8, 9, 10, 11, 12, 21, 22, 23, 24, 25, 26, 27, 28, 29, 30, 31, 32, 33, 34, 35, 36, 37, 38, 39, 40, 41, 42, 43, 44, 45, 46, 47, 48, 49, 50, 51, 52, 53, 54, 55, 56, 57, 58, 59, 60, 61, 62, 63, 64, 65, 66, 67, 68, 69, 70, 71, 72, 73, 74, 75, 76, 77, 78, 79, 80] rfl (by decide +kernel)
set_option maxRecDepth 20000 in
theorem gX9_verdict_X9_isTrue : GoodIn wsX9_verdict (wsV RX9 170 RX9 yX9_isTrue wsX9_isTrue) := goodIn_app (goodIn_of _ (by decide +kernel)) ggX9_verdict_X9_isTrue
theorem dX9_verdict_0 : decode cX9_verdict 0 = .ok (.iconst 5, 1) := by decide +kernel
theorem dX9_verdict_1 : decode cX9_verdict 1 = .ok (.iload_n 1, 1) := by decide +kernel
theorem dX9_verdict_2 : decode cX9_verdict 2 = .ok (.imul, 1) := by decide +kernel
theorem dX9_verdict_3 : decode cX9_verdict 3 = .ok (.istore_n 2, 1) := by decide +kernel
theorem dX9_verdict_4 : decode cX9_verdict 4 = .ok (.aload_n 0, 1) := by decide +kernel
theorem dX9_verdict_5 : decode cX9_verdict 5 = .ok (.getfield 17, 3) := by decide +kernel
theorem dX9_verdict_8 : decode cX9_verdict 8 = .ok (.iload_n 2, 1) := by decide +kernel
theorem dX9_verdict_9 : decode cX9_verdict 9 = .ok (.iaload, 1) := by decide +kernel
theorem dX9_verdict_10 : decode cX9_verdict 10 = .ok (.istore_n 3, 1) := by decide +kernel
theorem dX9_verdict_11 : decode cX9_verdict 11 = .ok (.iload_n 3, 1) := by decide +kernel
theorem dX9_verdict_12 : decode cX9_verdict 12 = .ok (.bipush 6, 2) := by decide +kernel
theorem dX9_verdict_14 : decode cX9_verdict 14 = .ok (.if_icmp .ne 9, 3) := by decide +kernel
theorem dX9_verdict_17 : decode cX9_verdict 17 = .ok (.sipush 1100, 3) := by decide +kernel
theorem dX9_verdict_20 : decode cX9_verdict 20 = .ok (.goto 8, 3) := by decide +kernel
theorem dX9_verdict_23 : decode cX9_verdict 23 = .ok (.getstatic 158, 3) := by decide +kernel
theorem dX9_verdict_26 : decode cX9_verdict 26 = .ok (.iload_n 3, 1) := by decide +kernel
theorem dX9_verdict_27 : decode cX9_verdict 27 = .ok (.iaload, 1) := by decide +kernel
theorem dX9_verdict_28 : decode cX9_verdict 28 = .ok (.istore 4, 2) := by decide +kernel
theorem dX9_verdict_30 : decode cX9_verdict 30 = .ok (.sipush 1000, 3) := by decide +kernel
theorem dX9_verdict_33 : decode cX9_verdict 33 = .ok (.istore 5, 2) := by decide +kernel
theorem dX9_verdict_35 : decode cX9_verdict 35 = .ok (.iconst 1, 1) := by decide +kernel
theorem dX9_verdict_36 : decode cX9_verdict 36 = .ok (.istore 6, 2) := by decide +kernel
theorem dX9_verdict_38 : decode cX9_verdict 38 = .ok (.iload 6, 2) := by decide +kernel
theorem dX9_verdict_40 : decode cX9_verdict 40 = .ok (.iconst 5, 1) := by decide +kernel
theorem dX9_verdict_41 : decode cX9_verdict 41 = .ok (.if_icmp .ge 45, 3) := by decide +kernel
theorem dX9_verdict_44 : decode cX9_verdict 44 = .ok (.iload 4, 2) := by decide +kernel
theorem dX9_verdict_46 : decode cX9_verdict 46 = .ok (.iload 5, 2) := by decide +kernel
theorem dX9_verdict_48 : decode cX9_verdict 48 = .ok (.idiv, 1) := by decide +kernel
theorem dX9_verdict_49 : decode cX9_verdict 49 = .ok (.bipush 10, 2) := by decide +kernel
theorem dX9_verdict_51 : decode cX9_verdict 51 = .ok (.irem, 1) := by decide +kernel
theorem dX9_verdict_52 : decode cX9_verdict 52 = .ok (.ifCond .eq 21, 3) := by decide +kernel
theorem dX9_verdict_55 : decode cX9_verdict 55 = .ok (.aload_n 0, 1) := by decide +kernel
theorem dX9_verdict_56 : decode cX9_verdict 56 = .ok (.aload_n 0, 1) := by decide +kernel
theorem dX9_verdict_57 : decode cX9_verdict 57 = .ok (.getfield 17, 3) := by decide +kernel
theorem dX9_verdict_60 : decode cX9_verdict 60 = .ok (.iload_n 2, 1) := by decide +kernel
theorem dX9_verdict_61 : decode cX9_verdict 61 = .ok (.iload 6, 2) := by decide +kernel
theorem dX9_verdict_63 : decode cX9_verdict 63 = .ok (.iadd, 1) := by decide +kernel
theorem dX9_verdict_64 : decode cX9_verdict 64 = .ok (.iaload, 1) := by decide +kernel
theorem dX9_verdict_65 : decode cX9_verdict 65 = .ok (.invokevirtual 111, 3) := by decide +kernel
theorem dX9_verdict_68 : decode cX9_verdict 68 = .ok (.ifCond .eq 5, 3) := by decide +kernel
theorem dX9_verdict_71 : decode cX9_verdict 71 = .ok (.iconst (-1), 1) := by decide +kernel
theorem dX9_verdict_72 : decode cX9_verdict 72 = .ok (.ireturn, 1) := by decide +kernel
theorem dX9_verdict_73 : decode cX9_verdict 73 = .ok (.iload 5, 2) := by decide +kernel
theorem dX9_verdict_75 : decode cX9_verdict 75 = .ok (.bipush 10, 2) := by decide +kernel
theorem dX9_verdict_77 : decode cX9_verdict 77 = .ok (.idiv, 1) := by decide +kernel
theorem dX9_verdict_78 : decode cX9_verdict 78 = .ok (.istore 5, 2) := by decide +kernel
theorem dX9_verdict_80 : decode cX9_verdict 80 = .ok (.iinc 6 1, 3) := by decide +kernel
theorem dX9_verdict_83 : decode cX9_verdict 83 = .ok (.goto (-45), 3) := by decide +kernel
theorem dX9_verdict_86 : decode cX9_verdict 86 = .ok (.aload_n 0, 1) := by decide +kernel
theorem dX9_verdict_87 : decode cX9_verdict 87 = .ok (.iload_n 3, 1) := by decide +kernel
theorem dX9_verdict_88 : decode cX9_verdict 88 = .ok (.aload_n 0, 1) := by decide +kernel
theorem dX9_verdict_89 : decode cX9_verdict 89 = .ok (.getfield 17, 3) := by decide +kernel
theorem dX9_verdict_92 : decode cX9_verdict 92 = .ok (.iload_n 2, 1) := by decide +kernel
theorem dX9_verdict_93 : decode cX9_verdict 93 = .ok (.iconst 1, 1) := by decide +kernel
theorem dX9_verdict_94 : decode cX9_verdict 94 = .ok (.iadd, 1) := by decide +kernel
theorem dX9_verdict_95 : decode cX9_verdict 95 = .ok (.iaload, 1) := by decide +kernel
theorem dX9_verdict_96 : decode cX9_verdict 96 = .ok (.aload_n 0, 1) := by decide +kernel
theorem dX9_verdict_97 : decode cX9_verdict 97 = .ok (.getfield 17, 3) := by decide +kernel
theorem dX9_verdict_100 : decode cX9_verdict 100 = .ok (.iload_n 2, 1) := by decide +kernel
theorem dX9_verdict_101 : decode cX9_verdict 101 = .ok (.iconst 2, 1) := by decide +kernel
theorem dX9_verdict_102 : decode cX9_verdict 102 = .ok (.iadd, 1) := by decide +kernel
theorem dX9_verdict_103 : decode cX9_verdict 103 = .ok (.iaload, 1) := by decide +kernel
theorem dX9_verdict_104 : decode cX9_verdict 104 = .ok (.aload_n 0, 1) := by decide +kernel
theorem dX9_verdict_105 : decode cX9_verdict 105 = .ok (.getfield 17, 3) := by decide +kernel
theorem dX9_verdict_108 : decode cX9_verdict 108 = .ok (.iload_n 2, 1) := by decide +kernel
theorem dX9_verdict_109 : decode cX9_verdict 109 = .ok (.iconst 3, 1) := by decide +kernel
theorem dX9_verdict_110 : decode cX9_verdict 110 = .ok (.iadd, 1) := by decide +kernel
theorem dX9_verdict_111 : decode cX9_verdict 111 = .ok (.iaload, 1) := by decide +kernel
theorem dX9_verdict_112 : decode cX9_verdict 112 = .ok (.aload_n 0, 1) := by decide +kernel
theorem dX9_verdict_113 : decode cX9_verdict 113 = .ok (.getfield 17, 3) := by decide +kernel
theorem dX9_verdict_116 : decode cX9_verdict 116 = .ok (.iload_n 2, 1) := by decide +kernel
theorem dX9_verdict_117 : decode cX9_verdict 117 = .ok (.iconst 4, 1) := by decide +kernel
theorem dX9_verdict_118 : decode cX9_verdict 118 = .ok (.iadd, 1) := by decide +kernel
theorem dX9_verdict_119 : decode cX9_verdict 119 = .ok (.iaload, 1) := by decide +kernel
theorem dX9_verdict_120 : decode cX9_verdict 120 = .ok (.invokevirtual 170, 3) := by decide +kernel
theorem dX9_verdict_123 : decode cX9_verdict 123 = .ok (.ifCond .eq 7, 3) := by decide +kernel
theorem dX9_verdict_126 : decode cX9_verdict 126 = .ok (.iconst 1, 1) := by decide +kernel
theorem dX9_verdict_127 : decode cX9_verdict 127 = .ok (.goto 4, 3) := by decide +kernel
theorem dX9_verdict_130 : decode cX9_verdict 130 = .ok (.iconst 0, 1) := by decide +kernel
theorem dX9_verdict_131 : decode cX9_verdict 131 = .ok (.ireturn, 1) := by decide +kernel
set_option maxRecDepth 20000 in
theorem ggX9_isClaim_X9_isIn : GoodIn wsX9_isClaim wsX9_isIn := goodIn_r _ [5] rfl (by decide +kernel)
set_option maxRecDepth 20000 in
theorem gX9_isClaim_X9_isIn : GoodIn wsX9_isClaim (va_wsS RX9 35 yX9_isIn wsX9_isIn) := goodIn_app (goodIn_of _ (by decide +kernel)) ggX9_isClaim_X9_isIn
theorem dX9_isClaim_0 : decode cX9_isClaim 0 = .ok (.iload_n 1, 1) := by decide +kernel
theorem dX9_isClaim_1 : decode cX9_isClaim 1 = .ok (.iconst 0, 1) := by decide +kernel
theorem dX9_isClaim_2 : decode cX9_isClaim 2 = .ok (.aload_n 0, 1) := by decide +kernel
theorem dX9_isClaim_3 : decode cX9_isClaim 3 = .ok (.getfield 55, 3) := by decide +kernel
theorem dX9_isClaim_6 : decode cX9_isClaim 6 = .ok (.iconst 1, 1) := by decide +kernel
theorem dX9_isClaim_7 : decode cX9_isClaim 7 = .ok (.isub, 1) := by decide +kernel
theorem dX9_isClaim_8 : decode cX9_isClaim 8 = .ok (.invokestatic 35, 3) := by decide +kernel
theorem dX9_isClaim_11 : decode cX9_isClaim 11 = .ok (.ireturn, 1) := by decide +kernel
set_option maxRecDepth 20000 in
theorem ggX9_holds_X9_isClaim : GoodIn wsX9_holds wsX9_isClaim := goodIn_r _ [6, 7, 8, 9, 5, 10, 88, 89, 90, 91, 92, 93, 94, 95, 96, 97] rfl (by decide +kernel)
set_option maxRecDepth 20000 in
theorem gX9_holds_X9_isClaim : GoodIn wsX9_holds (wsV RX9 174 RX9 yX9_isClaim wsX9_isClaim) := goodIn_app (goodIn_of _ (by decide +kernel)) ggX9_holds_X9_isClaim
set_option maxRecDepth 20000 in
theorem ggX9_holds_X9_verdict : GoodIn wsX9_holds wsX9_verdict := goodIn_r _ [14, 15, 16, 17, 18, 19, 5, 20, 21, 22, 23, 24, 25, 26, 27, 28, 29, 30, 31, 32, 33, 34, 35, 36, 37, 38, 39, 40, 41, 42, 43, 44, 45, 46, 47, 48, 49, 50, 51, 52, 53, 54, 55, 56, 57, 58, 59, 60, 61, 62, 63, 64, 65, 66, 67, 68, 69, 70, 71, 72, 73, 74, 75, 76, 77, 78, 79, 80, 81, 82, 83, 88, 89, 90, 91, 92, 93, 94, 95, 96, 97] rfl (by decide +kernel)
set_option maxRecDepth 20000 in
theorem gX9_holds_X9_verdict : GoodIn wsX9_holds (wsV RX9 177 RX9 yX9_verdict wsX9_verdict) := goodIn_app (goodIn_of _ (by decide +kernel)) ggX9_holds_X9_verdict
set_option maxRecDepth 20000 in
theorem ggX9_holds_X9_fail : GoodIn wsX9_holds wsX9_fail := goodIn_r _ [87, 1, 88, 89, 90, 91, 92, 93, 94, 95, 96, 97] rfl (by decide +kernel)
set_option maxRecDepth 20000 in
theorem gX9_holds_X9_fail : GoodIn wsX9_holds (wsV RX9 52 RX9 yX9_fail wsX9_fail) := goodIn_app (goodIn_of _ (by decide +kernel)) ggX9_holds_X9_fail
theorem dX9_holds_0 : decode cX9_holds 0 = .ok (.aload_n 0, 1) := by decide +kernel
theorem dX9_holds_1 : decode cX9_holds 1 = .ok (.iconst 0, 1) := by decide +kernel
theorem dX9_holds_2 : decode cX9_holds 2 = .ok (.putfield 29, 3) := by decide +kernel
theorem dX9_holds_5 : decode cX9_holds 5 = .ok (.aload_n 0, 1) := by decide +kernel
theorem dX9_holds_6 : decode cX9_holds 6 = .ok (.iload_n 1, 1) := by decide +kernel
theorem dX9_holds_7 : decode cX9_holds 7 = .ok (.invokevirtual 174, 3) := by decide +kernel
theorem dX9_holds_10 : decode cX9_holds 10 = .ok (.ifCond .eq 11, 3) := by decide +kernel
theorem dX9_holds_13 : decode cX9_holds 13 = .ok (.aload_n 0, 1) := by decide +kernel
theorem dX9_holds_14 : decode cX9_holds 14 = .ok (.iload_n 1, 1) := by decide +kernel
theorem dX9_holds_15 : decode cX9_holds 15 = .ok (.invokevirtual 177, 3) := by decide +kernel
theorem dX9_holds_18 : decode cX9_holds 18 = .ok (.goto 8, 3) := by decide +kernel
theorem dX9_holds_21 : decode cX9_holds 21 = .ok (.aload_n 0, 1) := by decide +kernel
theorem dX9_holds_22 : decode cX9_holds 22 = .ok (.iconst 1, 1) := by decide +kernel
theorem dX9_holds_23 : decode cX9_holds 23 = .ok (.invokevirtual 52, 3) := by decide +kernel
theorem dX9_holds_26 : decode cX9_holds 26 = .ok (.ireturn, 1) := by decide +kernel
set_option maxRecDepth 20000 in
theorem ggX9_everywhere_X9_isClaim : GoodIn wsX9_everywhere wsX9_isClaim := goodIn_r _ [8, 9, 10, 11, 7, 12, 138, 139, 140, 141, 142, 143, 144, 145, 146, 147] rfl (by decide +kernel)
set_option maxRecDepth 20000 in
theorem gX9_everywhere_X9_isClaim : GoodIn wsX9_everywhere (wsV RX9 174 RX9 yX9_isClaim wsX9_isClaim) := goodIn_app (goodIn_of _ (by decide +kernel)) ggX9_everywhere_X9_isClaim
set_option maxRecDepth 20000 in
theorem ggX9_everywhere_X9_isObject : GoodIn wsX9_everywhere wsX9_isObject := goodIn_r _ [16, 17, 10, 11, 7, 12, 138, 139, 140, 141, 142, 143, 144, 145, 146, 147] rfl (by decide +kernel)
set_option maxRecDepth 20000 in
theorem gX9_everywhere_X9_isObject : GoodIn wsX9_everywhere (wsV RX9 130 RX9 yX9_isObject wsX9_isObject) := goodIn_app (goodIn_of _ (by decide +kernel)) ggX9_everywhere_X9_isObject
set_option maxRecDepth 20000 in
theorem ggX9_everywhere_X9_isIn : GoodIn wsX9_everywhere wsX9_isIn := goodIn_r _ [12] rfl (by decide +kernel)
set_option maxRecDepth 20000 in
theorem gX9_everywhere_X9_isIn : GoodIn wsX9_everywhere (va_wsS RX9 35 yX9_isIn wsX9_isIn) := goodIn_app (goodIn_of _ (by decide +kernel)) ggX9_everywhere_X9_isIn
set_option maxRecDepth 20000 in
theorem ggX9_everywhere_X9_fail : GoodIn wsX9_everywhere wsX9_fail := goodIn_r _ [21, 1, 138, 139, 140, 141, 142, 143, 144, 145, 146, 147] rfl (by decide +kernel)
set_option maxRecDepth 20000 in
theorem gX9_everywhere_X9_fail : GoodIn wsX9_everywhere (wsV RX9 52 RX9 yX9_fail wsX9_fail) := goodIn_app (goodIn_of _ (by decide +kernel)) ggX9_everywhere_X9_fail
set_option maxRecDepth 20000 in
theorem ggX9_everywhere_X9_get : GoodIn wsX9_everywhere wsX9_get := goodIn_r _ [25, 26, 138, 139, 140, 141, 142, 143, 144, 145, 146, 147] rfl (by decide +kernel)
set_option maxRecDepth 20000 in
theorem gX9_everywhere_X9_get : GoodIn wsX9_everywhere (wsV RX9 39 RX9 yX9_get wsX9_get) := goodIn_app (goodIn_of _ (by decide +kernel)) ggX9_everywhere_X9_get
set_option maxRecDepth 20000 in
theorem ggX9_everywhere_X9_place : GoodIn wsX9_everywhere wsX9_place := goodIn_r _ [30, 26, 31, 32, 33, 7, 34, 17, 35, 22, 23, 24, 25, 36, 37, 38, 39, 40, 41, 42, 43, 44, 45, 46, 47, 48, 49, 50, 51, 3, 52, 53, 54, 55, 56, 57, 58, 59, 60, 61, 62, 63, 64, 65, 66, 67, 68, 69, 70, 71, 72, 73, 74, 75, 76, 77, 78, 79, 80, 81, 82, 83, 84, 85, 86, 87, 88, 89, 90, 91, 92, 93, 94, 95, 96, 97, 98, 99, 100, 101, 102, 103, 104, 105, 106, 107, 108, 109, 110, 111, 112, 113, 114, 115, 138, 139, 140, 141, 142, 143, 144, 145, 146, 147] rfl (by decide +kernel)
set_option maxRecDepth 20000 in
theorem gX9_everywhere_X9_place : GoodIn wsX9_everywhere (wsV RX9 151 RX9 yX9_place wsX9_place) := goodIn_app (goodIn_of _ (by decide +kernel)) ggX9_everywhere_X9_place
set_option maxRecDepth 20000 in
theorem ggX9_everywhere_X9_verdict : GoodIn wsX9_everywhere wsX9_verdict := goodIn_r _ [119, 120, 121, 36, 37, 38, 7, 39, 22, 23, 24, 25, 26, 122, 123, 124, 125, 60, 61, 62, 63, 64, 65, 66, 67, 126, 127, 128, 129, 68, 69, 70, 71, 48, 49, 50, 51, 3, 52, 53, 54, 55, 84, 85, 86, 87, 112, 113, 114, 115, 130, 131, 132, 133, 134, 135, 136, 137, 35, 56, 57, 58, 59, 44, 45, 46, 47, 72, 73, 74, 75, 138, 139, 140, 141, 142, 143, 144, 145, 146, 147] rfl (by decide +kernel)
set_option maxRecDepth 20000 in
theorem gX9_everywhere_X9_verdict : GoodIn wsX9_everywhere (wsV RX9 177 RX9 yX9_verdict wsX9_verdict) := goodIn_app (goodIn_of _ (by decide +kernel)) ggX9_everywhere_X9_verdict
theorem dX9_everywhere_0 : decode cX9_everywhere 0 = .ok (.aload_n 0, 1) := by decide +kernel
theorem dX9_everywhere_1 : decode cX9_everywhere 1 = .ok (.iconst 0, 1) := by decide +kernel
theorem dX9_everywhere_2 : decode cX9_everywhere 2 = .ok (.putfield 29, 3) := by decide +kernel
theorem dX9_everywhere_5 : decode cX9_everywhere 5 = .ok (.aload_n 0, 1) := by decide +kernel
theorem dX9_everywhere_6 : decode cX9_everywhere 6 = .ok (.iload_n 1, 1) := by decide +kernel
theorem dX9_everywhere_7 : decode cX9_everywhere 7 = .ok (.invokevirtual 174, 3) := by decide +kernel
theorem dX9_everywhere_10 : decode cX9_everywhere 10 = .ok (.ifCond .eq 20, 3) := by decide +kernel
theorem dX9_everywhere_13 : decode cX9_everywhere 13 = .ok (.aload_n 0, 1) := by decide +kernel
theorem dX9_everywhere_14 : decode cX9_everywhere 14 = .ok (.iload_n 2, 1) := by decide +kernel
theorem dX9_everywhere_15 : decode cX9_everywhere 15 = .ok (.invokevirtual 130, 3) := by decide +kernel
theorem dX9_everywhere_18 : decode cX9_everywhere 18 = .ok (.ifCond .eq 12, 3) := by decide +kernel
theorem dX9_everywhere_21 : decode cX9_everywhere 21 = .ok (.iload_n 3, 1) := by decide +kernel
theorem dX9_everywhere_22 : decode cX9_everywhere 22 = .ok (.iconst 0, 1) := by decide +kernel
theorem dX9_everywhere_23 : decode cX9_everywhere 23 = .ok (.iconst 2, 1) := by decide +kernel
theorem dX9_everywhere_24 : decode cX9_everywhere 24 = .ok (.invokestatic 35, 3) := by decide +kernel
theorem dX9_everywhere_27 : decode cX9_everywhere 27 = .ok (.ifCond .ne 9, 3) := by decide +kernel
theorem dX9_everywhere_30 : decode cX9_everywhere 30 = .ok (.aload_n 0, 1) := by decide +kernel
theorem dX9_everywhere_31 : decode cX9_everywhere 31 = .ok (.iconst 1, 1) := by decide +kernel
theorem dX9_everywhere_32 : decode cX9_everywhere 32 = .ok (.invokevirtual 52, 3) := by decide +kernel
theorem dX9_everywhere_35 : decode cX9_everywhere 35 = .ok (.ireturn, 1) := by decide +kernel
theorem dX9_everywhere_36 : decode cX9_everywhere 36 = .ok (.aload_n 0, 1) := by decide +kernel
theorem dX9_everywhere_37 : decode cX9_everywhere 37 = .ok (.iload_n 2, 1) := by decide +kernel
theorem dX9_everywhere_38 : decode cX9_everywhere 38 = .ok (.iconst 1, 1) := by decide +kernel
theorem dX9_everywhere_39 : decode cX9_everywhere 39 = .ok (.invokevirtual 39, 3) := by decide +kernel
theorem dX9_everywhere_42 : decode cX9_everywhere 42 = .ok (.ifCond .eq 9, 3) := by decide +kernel
theorem dX9_everywhere_45 : decode cX9_everywhere 45 = .ok (.aload_n 0, 1) := by decide +kernel
theorem dX9_everywhere_46 : decode cX9_everywhere 46 = .ok (.iconst 2, 1) := by decide +kernel
theorem dX9_everywhere_47 : decode cX9_everywhere 47 = .ok (.invokevirtual 52, 3) := by decide +kernel
theorem dX9_everywhere_50 : decode cX9_everywhere 50 = .ok (.ireturn, 1) := by decide +kernel
theorem dX9_everywhere_51 : decode cX9_everywhere 51 = .ok (.aload_n 0, 1) := by decide +kernel
theorem dX9_everywhere_52 : decode cX9_everywhere 52 = .ok (.iload_n 2, 1) := by decide +kernel
theorem dX9_everywhere_53 : decode cX9_everywhere 53 = .ok (.iconst 5, 1) := by decide +kernel
theorem dX9_everywhere_54 : decode cX9_everywhere 54 = .ok (.invokevirtual 39, 3) := by decide +kernel
theorem dX9_everywhere_57 : decode cX9_everywhere 57 = .ok (.istore 4, 2) := by decide +kernel
theorem dX9_everywhere_59 : decode cX9_everywhere 59 = .ok (.aload_n 0, 1) := by decide +kernel
theorem dX9_everywhere_60 : decode cX9_everywhere 60 = .ok (.iload_n 2, 1) := by decide +kernel
theorem dX9_everywhere_61 : decode cX9_everywhere 61 = .ok (.bipush 6, 2) := by decide +kernel
theorem dX9_everywhere_63 : decode cX9_everywhere 63 = .ok (.invokevirtual 39, 3) := by decide +kernel
theorem dX9_everywhere_66 : decode cX9_everywhere 66 = .ok (.istore 5, 2) := by decide +kernel
theorem dX9_everywhere_68 : decode cX9_everywhere 68 = .ok (.iconst 3, 1) := by decide +kernel
theorem dX9_everywhere_69 : decode cX9_everywhere 69 = .ok (.newarray .int, 2) := by decide +kernel
theorem dX9_everywhere_71 : decode cX9_everywhere 71 = .ok (.dup, 1) := by decide +kernel
theorem dX9_everywhere_72 : decode cX9_everywhere 72 = .ok (.iconst 0, 1) := by decide +kernel
theorem dX9_everywhere_73 : decode cX9_everywhere 73 = .ok (.iconst 0, 1) := by decide +kernel
theorem dX9_everywhere_74 : decode cX9_everywhere 74 = .ok (.iastore, 1) := by decide +kernel
theorem dX9_everywhere_75 : decode cX9_everywhere 75 = .ok (.dup, 1) := by decide +kernel
theorem dX9_everywhere_76 : decode cX9_everywhere 76 = .ok (.iconst 1, 1) := by decide +kernel
theorem dX9_everywhere_77 : decode cX9_everywhere 77 = .ok (.iconst 0, 1) := by decide +kernel
theorem dX9_everywhere_78 : decode cX9_everywhere 78 = .ok (.iastore, 1) := by decide +kernel
theorem dX9_everywhere_79 : decode cX9_everywhere 79 = .ok (.dup, 1) := by decide +kernel
theorem dX9_everywhere_80 : decode cX9_everywhere 80 = .ok (.iconst 2, 1) := by decide +kernel
theorem dX9_everywhere_81 : decode cX9_everywhere 81 = .ok (.iconst (-1), 1) := by decide +kernel
theorem dX9_everywhere_82 : decode cX9_everywhere 82 = .ok (.iastore, 1) := by decide +kernel
theorem dX9_everywhere_83 : decode cX9_everywhere 83 = .ok (.astore 6, 2) := by decide +kernel
theorem dX9_everywhere_85 : decode cX9_everywhere 85 = .ok (.iconst 0, 1) := by decide +kernel
theorem dX9_everywhere_86 : decode cX9_everywhere 86 = .ok (.istore 7, 2) := by decide +kernel
theorem dX9_everywhere_88 : decode cX9_everywhere 88 = .ok (.iload 7, 2) := by decide +kernel
theorem dX9_everywhere_90 : decode cX9_everywhere 90 = .ok (.aload_n 0, 1) := by decide +kernel
theorem dX9_everywhere_91 : decode cX9_everywhere 91 = .ok (.getfield 7, 3) := by decide +kernel
theorem dX9_everywhere_94 : decode cX9_everywhere 94 = .ok (.if_icmp .ge 95, 3) := by decide +kernel
theorem dX9_everywhere_97 : decode cX9_everywhere 97 = .ok (.iconst 0, 1) := by decide +kernel
theorem dX9_everywhere_98 : decode cX9_everywhere 98 = .ok (.istore 8, 2) := by decide +kernel
theorem dX9_everywhere_100 : decode cX9_everywhere 100 = .ok (.iload 8, 2) := by decide +kernel
theorem dX9_everywhere_102 : decode cX9_everywhere 102 = .ok (.aload_n 0, 1) := by decide +kernel
theorem dX9_everywhere_103 : decode cX9_everywhere 103 = .ok (.getfield 7, 3) := by decide +kernel
theorem dX9_everywhere_106 : decode cX9_everywhere 106 = .ok (.if_icmp .ge 77, 3) := by decide +kernel
theorem dX9_everywhere_109 : decode cX9_everywhere 109 = .ok (.aload_n 0, 1) := by decide +kernel
theorem dX9_everywhere_110 : decode cX9_everywhere 110 = .ok (.iload_n 2, 1) := by decide +kernel
theorem dX9_everywhere_111 : decode cX9_everywhere 111 = .ok (.iload 7, 2) := by decide +kernel
theorem dX9_everywhere_113 : decode cX9_everywhere 113 = .ok (.iload 8, 2) := by decide +kernel
theorem dX9_everywhere_115 : decode cX9_everywhere 115 = .ok (.invokevirtual 151, 3) := by decide +kernel
theorem dX9_everywhere_118 : decode cX9_everywhere 118 = .ok (.aload_n 0, 1) := by decide +kernel
theorem dX9_everywhere_119 : decode cX9_everywhere 119 = .ok (.iload_n 1, 1) := by decide +kernel
theorem dX9_everywhere_120 : decode cX9_everywhere 120 = .ok (.invokevirtual 177, 3) := by decide +kernel
theorem dX9_everywhere_123 : decode cX9_everywhere 123 = .ok (.istore 9, 2) := by decide +kernel
theorem dX9_everywhere_125 : decode cX9_everywhere 125 = .ok (.iload 9, 2) := by decide +kernel
theorem dX9_everywhere_127 : decode cX9_everywhere 127 = .ok (.iconst 1, 1) := by decide +kernel
theorem dX9_everywhere_128 : decode cX9_everywhere 128 = .ok (.if_icmp .ne 11, 3) := by decide +kernel
theorem dX9_everywhere_131 : decode cX9_everywhere 131 = .ok (.aload 6, 2) := by decide +kernel
theorem dX9_everywhere_133 : decode cX9_everywhere 133 = .ok (.iconst 0, 1) := by decide +kernel
theorem dX9_everywhere_134 : decode cX9_everywhere 134 = .ok (.dup2, 1) := by decide +kernel
theorem dX9_everywhere_135 : decode cX9_everywhere 135 = .ok (.iaload, 1) := by decide +kernel
theorem dX9_everywhere_136 : decode cX9_everywhere 136 = .ok (.iconst 1, 1) := by decide +kernel
theorem dX9_everywhere_137 : decode cX9_everywhere 137 = .ok (.iadd, 1) := by decide +kernel
theorem dX9_everywhere_138 : decode cX9_everywhere 138 = .ok (.iastore, 1) := by decide +kernel
theorem dX9_everywhere_139 : decode cX9_everywhere 139 = .ok (.iload 9, 2) := by decide +kernel
theorem dX9_everywhere_141 : decode cX9_everywhere 141 = .ok (.ifCond .eq 6, 3) := by decide +kernel
theorem dX9_everywhere_144 : decode cX9_everywhere 144 = .ok (.goto 33, 3) := by decide +kernel
theorem dX9_everywhere_147 : decode cX9_everywhere 147 = .ok (.aload 6, 2) := by decide +kernel
theorem dX9_everywhere_149 : decode cX9_everywhere 149 = .ok (.iconst 1, 1) := by decide +kernel
theorem dX9_everywhere_150 : decode cX9_everywhere 150 = .ok (.dup2, 1) := by decide +kernel
theorem dX9_everywhere_151 : decode cX9_everywhere 151 = .ok (.iaload, 1) := by decide +kernel
theorem dX9_everywhere_152 : decode cX9_everywhere 152 = .ok (.iconst 1, 1) := by decide +kernel
theorem dX9_everywhere_153 : decode cX9_everywhere 153 = .ok (.iadd, 1) := by decide +kernel
theorem dX9_everywhere_154 : decode cX9_everywhere 154 = .ok (.iastore, 1) := by decide +kernel
theorem dX9_everywhere_155 : decode cX9_everywhere 155 = .ok (.aload 6, 2) := by decide +kernel
theorem dX9_everywhere_157 : decode cX9_everywhere 157 = .ok (.iconst 2, 1) := by decide +kernel
theorem dX9_everywhere_158 : decode cX9_everywhere 158 = .ok (.iaload, 1) := by decide +kernel
theorem dX9_everywhere_159 : decode cX9_everywhere 159 = .ok (.iconst (-1), 1) := by decide +kernel
theorem dX9_everywhere_160 : decode cX9_everywhere 160 = .ok (.if_icmp .ne 17, 3) := by decide +kernel
theorem dX9_everywhere_163 : decode cX9_everywhere 163 = .ok (.aload 6, 2) := by decide +kernel
theorem dX9_everywhere_165 : decode cX9_everywhere 165 = .ok (.iconst 2, 1) := by decide +kernel
theorem dX9_everywhere_166 : decode cX9_everywhere 166 = .ok (.aload_n 0, 1) := by decide +kernel
theorem dX9_everywhere_167 : decode cX9_everywhere 167 = .ok (.getfield 7, 3) := by decide +kernel
theorem dX9_everywhere_170 : decode cX9_everywhere 170 = .ok (.iload 7, 2) := by decide +kernel
theorem dX9_everywhere_172 : decode cX9_everywhere 172 = .ok (.imul, 1) := by decide +kernel
theorem dX9_everywhere_173 : decode cX9_everywhere 173 = .ok (.iload 8, 2) := by decide +kernel
theorem dX9_everywhere_175 : decode cX9_everywhere 175 = .ok (.iadd, 1) := by decide +kernel
theorem dX9_everywhere_176 : decode cX9_everywhere 176 = .ok (.iastore, 1) := by decide +kernel
theorem dX9_everywhere_177 : decode cX9_everywhere 177 = .ok (.iinc 8 1, 3) := by decide +kernel
theorem dX9_everywhere_180 : decode cX9_everywhere 180 = .ok (.goto (-80), 3) := by decide +kernel
theorem dX9_everywhere_183 : decode cX9_everywhere 183 = .ok (.iinc 7 1, 3) := by decide +kernel
theorem dX9_everywhere_186 : decode cX9_everywhere 186 = .ok (.goto (-98), 3) := by decide +kernel
theorem dX9_everywhere_189 : decode cX9_everywhere 189 = .ok (.aload_n 0, 1) := by decide +kernel
theorem dX9_everywhere_190 : decode cX9_everywhere 190 = .ok (.iload_n 2, 1) := by decide +kernel
theorem dX9_everywhere_191 : decode cX9_everywhere 191 = .ok (.iload 4, 2) := by decide +kernel
theorem dX9_everywhere_193 : decode cX9_everywhere 193 = .ok (.iload 5, 2) := by decide +kernel
theorem dX9_everywhere_195 : decode cX9_everywhere 195 = .ok (.invokevirtual 151, 3) := by decide +kernel
theorem dX9_everywhere_198 : decode cX9_everywhere 198 = .ok (.aload 6, 2) := by decide +kernel
theorem dX9_everywhere_200 : decode cX9_everywhere 200 = .ok (.iload_n 3, 1) := by decide +kernel
theorem dX9_everywhere_201 : decode cX9_everywhere 201 = .ok (.iaload, 1) := by decide +kernel
theorem dX9_everywhere_202 : decode cX9_everywhere 202 = .ok (.ireturn, 1) := by decide +kernel
theorem dX9_meet_0 : decode cX9_meet 0 = .ok (.iconst 0, 1) := by decide +kernel
theorem dX9_meet_1 : decode cX9_meet 1 = .ok (.istore_n 3, 1) := by decide +kernel
theorem dX9_meet_2 : decode cX9_meet 2 = .ok (.iload_n 3, 1) := by decide +kernel
theorem dX9_meet_3 : decode cX9_meet 3 = .ok (.aload_n 0, 1) := by decide +kernel
theorem dX9_meet_4 : decode cX9_meet 4 = .ok (.getfield 180, 3) := by decide +kernel
theorem dX9_meet_7 : decode cX9_meet 7 = .ok (.if_icmp .ge 30, 3) := by decide +kernel
theorem dX9_meet_10 : decode cX9_meet 10 = .ok (.aload_n 0, 1) := by decide +kernel
theorem dX9_meet_11 : decode cX9_meet 11 = .ok (.getfield 23, 3) := by decide +kernel
theorem dX9_meet_14 : decode cX9_meet 14 = .ok (.iload_n 3, 1) := by decide +kernel
theorem dX9_meet_15 : decode cX9_meet 15 = .ok (.iaload, 1) := by decide +kernel
theorem dX9_meet_16 : decode cX9_meet 16 = .ok (.iload_n 1, 1) := by decide +kernel
theorem dX9_meet_17 : decode cX9_meet 17 = .ok (.if_icmp .ne 14, 3) := by decide +kernel
theorem dX9_meet_20 : decode cX9_meet 20 = .ok (.aload_n 0, 1) := by decide +kernel
theorem dX9_meet_21 : decode cX9_meet 21 = .ok (.getfield 26, 3) := by decide +kernel
theorem dX9_meet_24 : decode cX9_meet 24 = .ok (.iload_n 3, 1) := by decide +kernel
theorem dX9_meet_25 : decode cX9_meet 25 = .ok (.iaload, 1) := by decide +kernel
theorem dX9_meet_26 : decode cX9_meet 26 = .ok (.iload_n 2, 1) := by decide +kernel
theorem dX9_meet_27 : decode cX9_meet 27 = .ok (.if_icmp .ne 4, 3) := by decide +kernel
theorem dX9_meet_30 : decode cX9_meet 30 = .ok (.return_, 1) := by decide +kernel
theorem dX9_meet_31 : decode cX9_meet 31 = .ok (.iinc 3 1, 3) := by decide +kernel
theorem dX9_meet_34 : decode cX9_meet 34 = .ok (.goto (-32), 3) := by decide +kernel
theorem dX9_meet_37 : decode cX9_meet 37 = .ok (.aload_n 0, 1) := by decide +kernel
theorem dX9_meet_38 : decode cX9_meet 38 = .ok (.getfield 23, 3) := by decide +kernel
theorem dX9_meet_41 : decode cX9_meet 41 = .ok (.aload_n 0, 1) := by decide +kernel
theorem dX9_meet_42 : decode cX9_meet 42 = .ok (.getfield 180, 3) := by decide +kernel
theorem dX9_meet_45 : decode cX9_meet 45 = .ok (.iload_n 1, 1) := by decide +kernel
theorem dX9_meet_46 : decode cX9_meet 46 = .ok (.iastore, 1) := by decide +kernel
theorem dX9_meet_47 : decode cX9_meet 47 = .ok (.aload_n 0, 1) := by decide +kernel
theorem dX9_meet_48 : decode cX9_meet 48 = .ok (.getfield 26, 3) := by decide +kernel
theorem dX9_meet_51 : decode cX9_meet 51 = .ok (.aload_n 0, 1) := by decide +kernel
theorem dX9_meet_52 : decode cX9_meet 52 = .ok (.getfield 180, 3) := by decide +kernel
theorem dX9_meet_55 : decode cX9_meet 55 = .ok (.iload_n 2, 1) := by decide +kernel
theorem dX9_meet_56 : decode cX9_meet 56 = .ok (.iastore, 1) := by decide +kernel
theorem dX9_meet_57 : decode cX9_meet 57 = .ok (.aload_n 0, 1) := by decide +kernel
theorem dX9_meet_58 : decode cX9_meet 58 = .ok (.dup, 1) := by decide +kernel
theorem dX9_meet_59 : decode cX9_meet 59 = .ok (.getfield 180, 3) := by decide +kernel
theorem dX9_meet_62 : decode cX9_meet 62 = .ok (.iconst 1, 1) := by decide +kernel
theorem dX9_meet_63 : decode cX9_meet 63 = .ok (.iadd, 1) := by decide +kernel
theorem dX9_meet_64 : decode cX9_meet 64 = .ok (.putfield 180, 3) := by decide +kernel
theorem dX9_meet_67 : decode cX9_meet 67 = .ok (.return_, 1) := by decide +kernel
set_option maxRecDepth 20000 in
theorem ggX9_cross_X9_mod : GoodIn wsX9_cross wsX9_mod := goodIn_r _ [7, 8, 9, 10, 11, 12, 13, 14, 15, 16, 17, 18, 19, 20, 21, 22] rfl (by decide +kernel)
set_option maxRecDepth 20000 in
theorem gX9_cross_X9_mod : GoodIn wsX9_cross (wsV RX9 48 RX9 yX9_mod wsX9_mod) := goodIn_app (goodIn_of _ (by decide +kernel)) ggX9_cross_X9_mod
theorem dX9_cross_0 : decode cX9_cross 0 = .ok (.aload_n 0, 1) := by decide +kernel
theorem dX9_cross_1 : decode cX9_cross 1 = .ok (.aload_n 0, 1) := by decide +kernel
theorem dX9_cross_2 : decode cX9_cross 2 = .ok (.getfield 23, 3) := by decide +kernel
theorem dX9_cross_5 : decode cX9_cross 5 = .ok (.iconst 1, 1) := by decide +kernel
theorem dX9_cross_6 : decode cX9_cross 6 = .ok (.iaload, 1) := by decide +kernel
theorem dX9_cross_7 : decode cX9_cross 7 = .ok (.aload_n 0, 1) := by decide +kernel
theorem dX9_cross_8 : decode cX9_cross 8 = .ok (.getfield 23, 3) := by decide +kernel
theorem dX9_cross_11 : decode cX9_cross 11 = .ok (.iconst 0, 1) := by decide +kernel
theorem dX9_cross_12 : decode cX9_cross 12 = .ok (.iaload, 1) := by decide +kernel
theorem dX9_cross_13 : decode cX9_cross 13 = .ok (.isub, 1) := by decide +kernel
theorem dX9_cross_14 : decode cX9_cross 14 = .ok (.aload_n 0, 1) := by decide +kernel
theorem dX9_cross_15 : decode cX9_cross 15 = .ok (.getfield 26, 3) := by decide +kernel
theorem dX9_cross_18 : decode cX9_cross 18 = .ok (.iload_n 1, 1) := by decide +kernel
theorem dX9_cross_19 : decode cX9_cross 19 = .ok (.iaload, 1) := by decide +kernel
theorem dX9_cross_20 : decode cX9_cross 20 = .ok (.aload_n 0, 1) := by decide +kernel
theorem dX9_cross_21 : decode cX9_cross 21 = .ok (.getfield 26, 3) := by decide +kernel
theorem dX9_cross_24 : decode cX9_cross 24 = .ok (.iconst 0, 1) := by decide +kernel
theorem dX9_cross_25 : decode cX9_cross 25 = .ok (.iaload, 1) := by decide +kernel
theorem dX9_cross_26 : decode cX9_cross 26 = .ok (.isub, 1) := by decide +kernel
theorem dX9_cross_27 : decode cX9_cross 27 = .ok (.imul, 1) := by decide +kernel
theorem dX9_cross_28 : decode cX9_cross 28 = .ok (.aload_n 0, 1) := by decide +kernel
theorem dX9_cross_29 : decode cX9_cross 29 = .ok (.getfield 23, 3) := by decide +kernel
theorem dX9_cross_32 : decode cX9_cross 32 = .ok (.iload_n 1, 1) := by decide +kernel
theorem dX9_cross_33 : decode cX9_cross 33 = .ok (.iaload, 1) := by decide +kernel
theorem dX9_cross_34 : decode cX9_cross 34 = .ok (.aload_n 0, 1) := by decide +kernel
theorem dX9_cross_35 : decode cX9_cross 35 = .ok (.getfield 23, 3) := by decide +kernel
theorem dX9_cross_38 : decode cX9_cross 38 = .ok (.iconst 0, 1) := by decide +kernel
theorem dX9_cross_39 : decode cX9_cross 39 = .ok (.iaload, 1) := by decide +kernel
theorem dX9_cross_40 : decode cX9_cross 40 = .ok (.isub, 1) := by decide +kernel
theorem dX9_cross_41 : decode cX9_cross 41 = .ok (.aload_n 0, 1) := by decide +kernel
theorem dX9_cross_42 : decode cX9_cross 42 = .ok (.getfield 26, 3) := by decide +kernel
theorem dX9_cross_45 : decode cX9_cross 45 = .ok (.iconst 1, 1) := by decide +kernel
theorem dX9_cross_46 : decode cX9_cross 46 = .ok (.iaload, 1) := by decide +kernel
theorem dX9_cross_47 : decode cX9_cross 47 = .ok (.aload_n 0, 1) := by decide +kernel
theorem dX9_cross_48 : decode cX9_cross 48 = .ok (.getfield 26, 3) := by decide +kernel
theorem dX9_cross_51 : decode cX9_cross 51 = .ok (.iconst 0, 1) := by decide +kernel
theorem dX9_cross_52 : decode cX9_cross 52 = .ok (.iaload, 1) := by decide +kernel
theorem dX9_cross_53 : decode cX9_cross 53 = .ok (.isub, 1) := by decide +kernel
theorem dX9_cross_54 : decode cX9_cross 54 = .ok (.imul, 1) := by decide +kernel
theorem dX9_cross_55 : decode cX9_cross 55 = .ok (.isub, 1) := by decide +kernel
theorem dX9_cross_56 : decode cX9_cross 56 = .ok (.invokevirtual 48, 3) := by decide +kernel
theorem dX9_cross_59 : decode cX9_cross 59 = .ok (.ireturn, 1) := by decide +kernel
set_option maxRecDepth 20000 in
theorem ggX9_figure_X9_cross : GoodIn wsX9_figure wsX9_cross := goodIn_r _ [9, 2, 3, 10, 11, 12, 8, 13, 14, 15, 16, 17, 18, 39, 40, 41, 42, 43, 44, 45, 46, 47, 48] rfl (by decide +kernel)
set_option maxRecDepth 20000 in
theorem gX9_figure_X9_cross : GoodIn wsX9_figure (wsV RX9 183 RX9 yX9_cross wsX9_cross) := goodIn_app (goodIn_of _ (by decide +kernel)) ggX9_figure_X9_cross
set_option maxRecDepth 20000 in
theorem ggX9_figure_X9_layLine : GoodIn wsX9_figure wsX9_layLine := goodIn_r _ [22, 10, 11, 12, 8, 13, 14, 15, 16, 17, 18, 23, 24, 25, 26, 27, 28, 29, 30, 4, 39, 40, 41, 42, 43, 44, 45, 46, 47, 48] rfl (by decide +kernel)
set_option maxRecDepth 20000 in
theorem gX9_figure_X9_layLine : GoodIn wsX9_figure (wsV RX9 77 RX9 yX9_layLine wsX9_layLine) := goodIn_app (goodIn_of _ (by decide +kernel)) ggX9_figure_X9_layLine
set_option maxRecDepth 20000 in
theorem ggX9_figure_X9_intersect : GoodIn wsX9_figure wsX9_intersect := goodIn_r _ [34, 10, 11, 12, 8, 13, 14, 15, 16, 17, 18, 23, 24, 25, 26, 27, 28, 29, 30, 4, 39, 40, 41, 42, 43, 44, 45, 46, 47, 48] rfl (by decide +kernel)
set_option maxRecDepth 20000 in
theorem gX9_figure_X9_intersect : GoodIn wsX9_figure (wsV RX9 91 RX9 yX9_intersect wsX9_intersect) := goodIn_app (goodIn_of _ (by decide +kernel)) ggX9_figure_X9_intersect
set_option maxRecDepth 20000 in
theorem ggX9_figure_X9_squareOf : GoodIn wsX9_figure wsX9_squareOf := goodIn_r _ [38, 10, 11, 12, 8, 13, 14, 15, 16, 17, 18, 39, 40, 41, 42, 43, 44, 45, 46, 47, 48] rfl (by decide +kernel)
set_option maxRecDepth 20000 in
theorem gX9_figure_X9_squareOf : GoodIn wsX9_figure (wsV RX9 64 RX9 yX9_squareOf wsX9_squareOf) := goodIn_app (goodIn_of _ (by decide +kernel)) ggX9_figure_X9_squareOf
theorem dX9_figure_0 : decode cX9_figure 0 = .ok (.aload_n 0, 1) := by decide +kernel
theorem dX9_figure_1 : decode cX9_figure 1 = .ok (.getfield 180, 3) := by decide +kernel
theorem dX9_figure_4 : decode cX9_figure 4 = .ok (.iconst 3, 1) := by decide +kernel
theorem dX9_figure_5 : decode cX9_figure 5 = .ok (.if_icmp .ge 5, 3) := by decide +kernel
theorem dX9_figure_8 : decode cX9_figure 8 = .ok (.iconst 0, 1) := by decide +kernel
theorem dX9_figure_9 : decode cX9_figure 9 = .ok (.ireturn, 1) := by decide +kernel
theorem dX9_figure_10 : decode cX9_figure 10 = .ok (.iconst 1, 1) := by decide +kernel
theorem dX9_figure_11 : decode cX9_figure 11 = .ok (.istore_n 1, 1) := by decide +kernel
theorem dX9_figure_12 : decode cX9_figure 12 = .ok (.iconst 2, 1) := by decide +kernel
theorem dX9_figure_13 : decode cX9_figure 13 = .ok (.istore_n 2, 1) := by decide +kernel
theorem dX9_figure_14 : decode cX9_figure 14 = .ok (.iload_n 2, 1) := by decide +kernel
theorem dX9_figure_15 : decode cX9_figure 15 = .ok (.aload_n 0, 1) := by decide +kernel
theorem dX9_figure_16 : decode cX9_figure 16 = .ok (.getfield 180, 3) := by decide +kernel
theorem dX9_figure_19 : decode cX9_figure 19 = .ok (.if_icmp .ge 27, 3) := by decide +kernel
theorem dX9_figure_22 : decode cX9_figure 22 = .ok (.iload_n 1, 1) := by decide +kernel
theorem dX9_figure_23 : decode cX9_figure 23 = .ok (.ifCond .eq 15, 3) := by decide +kernel
theorem dX9_figure_26 : decode cX9_figure 26 = .ok (.aload_n 0, 1) := by decide +kernel
theorem dX9_figure_27 : decode cX9_figure 27 = .ok (.iload_n 2, 1) := by decide +kernel
theorem dX9_figure_28 : decode cX9_figure 28 = .ok (.invokevirtual 183, 3) := by decide +kernel
theorem dX9_figure_31 : decode cX9_figure 31 = .ok (.ifCond .ne 7, 3) := by decide +kernel
theorem dX9_figure_34 : decode cX9_figure 34 = .ok (.iconst 1, 1) := by decide +kernel
theorem dX9_figure_35 : decode cX9_figure 35 = .ok (.goto 4, 3) := by decide +kernel
theorem dX9_figure_38 : decode cX9_figure 38 = .ok (.iconst 0, 1) := by decide +kernel
theorem dX9_figure_39 : decode cX9_figure 39 = .ok (.istore_n 1, 1) := by decide +kernel
theorem dX9_figure_40 : decode cX9_figure 40 = .ok (.iinc 2 1, 3) := by decide +kernel
theorem dX9_figure_43 : decode cX9_figure 43 = .ok (.goto (-29), 3) := by decide +kernel
theorem dX9_figure_46 : decode cX9_figure 46 = .ok (.iload_n 1, 1) := by decide +kernel
theorem dX9_figure_47 : decode cX9_figure 47 = .ok (.ifCond .eq 5, 3) := by decide +kernel
theorem dX9_figure_50 : decode cX9_figure 50 = .ok (.iconst 1, 1) := by decide +kernel
theorem dX9_figure_51 : decode cX9_figure 51 = .ok (.ireturn, 1) := by decide +kernel
theorem dX9_figure_52 : decode cX9_figure 52 = .ok (.aload_n 0, 1) := by decide +kernel
theorem dX9_figure_53 : decode cX9_figure 53 = .ok (.iconst 2, 1) := by decide +kernel
theorem dX9_figure_54 : decode cX9_figure 54 = .ok (.invokevirtual 183, 3) := by decide +kernel
theorem dX9_figure_57 : decode cX9_figure 57 = .ok (.ifCond .ne 5, 3) := by decide +kernel
theorem dX9_figure_60 : decode cX9_figure 60 = .ok (.iconst 3, 1) := by decide +kernel
theorem dX9_figure_61 : decode cX9_figure 61 = .ok (.ireturn, 1) := by decide +kernel
theorem dX9_figure_62 : decode cX9_figure 62 = .ok (.aload_n 0, 1) := by decide +kernel
theorem dX9_figure_63 : decode cX9_figure 63 = .ok (.iconst 2, 1) := by decide +kernel
theorem dX9_figure_64 : decode cX9_figure 64 = .ok (.aload_n 0, 1) := by decide +kernel
theorem dX9_figure_65 : decode cX9_figure 65 = .ok (.getfield 23, 3) := by decide +kernel
theorem dX9_figure_68 : decode cX9_figure 68 = .ok (.iconst 1, 1) := by decide +kernel
theorem dX9_figure_69 : decode cX9_figure 69 = .ok (.iaload, 1) := by decide +kernel
theorem dX9_figure_70 : decode cX9_figure 70 = .ok (.aload_n 0, 1) := by decide +kernel
theorem dX9_figure_71 : decode cX9_figure 71 = .ok (.getfield 23, 3) := by decide +kernel
theorem dX9_figure_74 : decode cX9_figure 74 = .ok (.iconst 0, 1) := by decide +kernel
theorem dX9_figure_75 : decode cX9_figure 75 = .ok (.iaload, 1) := by decide +kernel
theorem dX9_figure_76 : decode cX9_figure 76 = .ok (.isub, 1) := by decide +kernel
theorem dX9_figure_77 : decode cX9_figure 77 = .ok (.imul, 1) := by decide +kernel
theorem dX9_figure_78 : decode cX9_figure 78 = .ok (.iconst 2, 1) := by decide +kernel
theorem dX9_figure_79 : decode cX9_figure 79 = .ok (.aload_n 0, 1) := by decide +kernel
theorem dX9_figure_80 : decode cX9_figure 80 = .ok (.getfield 26, 3) := by decide +kernel
theorem dX9_figure_83 : decode cX9_figure 83 = .ok (.iconst 1, 1) := by decide +kernel
theorem dX9_figure_84 : decode cX9_figure 84 = .ok (.iaload, 1) := by decide +kernel
theorem dX9_figure_85 : decode cX9_figure 85 = .ok (.aload_n 0, 1) := by decide +kernel
theorem dX9_figure_86 : decode cX9_figure 86 = .ok (.getfield 26, 3) := by decide +kernel
theorem dX9_figure_89 : decode cX9_figure 89 = .ok (.iconst 0, 1) := by decide +kernel
theorem dX9_figure_90 : decode cX9_figure 90 = .ok (.iaload, 1) := by decide +kernel
theorem dX9_figure_91 : decode cX9_figure 91 = .ok (.isub, 1) := by decide +kernel
theorem dX9_figure_92 : decode cX9_figure 92 = .ok (.imul, 1) := by decide +kernel
theorem dX9_figure_93 : decode cX9_figure 93 = .ok (.aload_n 0, 1) := by decide +kernel
theorem dX9_figure_94 : decode cX9_figure 94 = .ok (.getfield 23, 3) := by decide +kernel
theorem dX9_figure_97 : decode cX9_figure 97 = .ok (.iconst 0, 1) := by decide +kernel
theorem dX9_figure_98 : decode cX9_figure 98 = .ok (.iaload, 1) := by decide +kernel
theorem dX9_figure_99 : decode cX9_figure 99 = .ok (.aload_n 0, 1) := by decide +kernel
theorem dX9_figure_100 : decode cX9_figure 100 = .ok (.getfield 23, 3) := by decide +kernel
theorem dX9_figure_103 : decode cX9_figure 103 = .ok (.iconst 0, 1) := by decide +kernel
theorem dX9_figure_104 : decode cX9_figure 104 = .ok (.iaload, 1) := by decide +kernel
theorem dX9_figure_105 : decode cX9_figure 105 = .ok (.imul, 1) := by decide +kernel
theorem dX9_figure_106 : decode cX9_figure 106 = .ok (.aload_n 0, 1) := by decide +kernel
theorem dX9_figure_107 : decode cX9_figure 107 = .ok (.getfield 26, 3) := by decide +kernel
theorem dX9_figure_110 : decode cX9_figure 110 = .ok (.iconst 0, 1) := by decide +kernel
theorem dX9_figure_111 : decode cX9_figure 111 = .ok (.iaload, 1) := by decide +kernel
theorem dX9_figure_112 : decode cX9_figure 112 = .ok (.aload_n 0, 1) := by decide +kernel
theorem dX9_figure_113 : decode cX9_figure 113 = .ok (.getfield 26, 3) := by decide +kernel
theorem dX9_figure_116 : decode cX9_figure 116 = .ok (.iconst 0, 1) := by decide +kernel
theorem dX9_figure_117 : decode cX9_figure 117 = .ok (.iaload, 1) := by decide +kernel
theorem dX9_figure_118 : decode cX9_figure 118 = .ok (.imul, 1) := by decide +kernel
theorem dX9_figure_119 : decode cX9_figure 119 = .ok (.iadd, 1) := by decide +kernel
theorem dX9_figure_120 : decode cX9_figure 120 = .ok (.aload_n 0, 1) := by decide +kernel
theorem dX9_figure_121 : decode cX9_figure 121 = .ok (.getfield 23, 3) := by decide +kernel
theorem dX9_figure_124 : decode cX9_figure 124 = .ok (.iconst 1, 1) := by decide +kernel
