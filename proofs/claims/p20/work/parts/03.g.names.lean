theorem dX8_locus_203 : decode cX8_locus 203 = .ok (.getfield 66, 3) := by decide +kernel
theorem dX8_locus_206 : decode cX8_locus 206 = .ok (.ireturn, 1) := by decide +kernel
theorem dX8_locus_207 : decode cX8_locus 207 = .ok (.aload_n 0, 1) := by decide +kernel
theorem dX8_locus_208 : decode cX8_locus 208 = .ok (.getfield 10, 3) := by decide +kernel
theorem dX8_locus_211 : decode cX8_locus 211 = .ok (.aload_n 0, 1) := by decide +kernel
theorem dX8_locus_212 : decode cX8_locus 212 = .ok (.getfield 45, 3) := by decide +kernel
theorem dX8_locus_215 : decode cX8_locus 215 = .ok (.getfield 266, 3) := by decide +kernel
theorem dX8_locus_218 : decode cX8_locus 218 = .ok (.invokevirtual 269, 3) := by decide +kernel
theorem dX8_locus_221 : decode cX8_locus 221 = .ok (.ireturn, 1) := by decide +kernel
theorem dX8_locus_222 : decode cX8_locus 222 = .ok (.aload_n 0, 1) := by decide +kernel
theorem dX8_locus_223 : decode cX8_locus 223 = .ok (.getfield 45, 3) := by decide +kernel
theorem dX8_locus_226 : decode cX8_locus 226 = .ok (.getfield 273, 3) := by decide +kernel
theorem dX8_locus_229 : decode cX8_locus 229 = .ok (.ireturn, 1) := by decide +kernel
theorem dX8_locus_230 : decode cX8_locus 230 = .ok (.aload_n 0, 1) := by decide +kernel
theorem dX8_locus_231 : decode cX8_locus 231 = .ok (.getfield 45, 3) := by decide +kernel
theorem dX8_locus_234 : decode cX8_locus 234 = .ok (.aload_n 0, 1) := by decide +kernel
theorem dX8_locus_235 : decode cX8_locus 235 = .ok (.getfield 27, 3) := by decide +kernel
theorem dX8_locus_238 : decode cX8_locus 238 = .ok (.getfield 85, 3) := by decide +kernel
theorem dX8_locus_241 : decode cX8_locus 241 = .ok (.invokevirtual 276, 3) := by decide +kernel
theorem dX8_locus_244 : decode cX8_locus 244 = .ok (.ireturn, 1) := by decide +kernel
set_option maxRecDepth 20000 in
theorem ggX8_truth_X1_at : GoodIn wsX8_truth wsX1_at := goodIn_r _ [7, 8, 9, 10, 118, 119, 120] rfl (by decide +kernel)
set_option maxRecDepth 20000 in
theorem gX8_truth_X1_at : GoodIn wsX8_truth (wsV RX8 233 RX1 yX1_at wsX1_at) := goodIn_app (goodIn_of _ (by decide +kernel)) ggX8_truth_X1_at
set_option maxRecDepth 20000 in
theorem ggX8_truth_X8_verdict : GoodIn wsX8_truth wsX8_verdict := goodIn_r _ [15, 16, 17, 18, 19, 20, 21, 22, 23, 24, 25, 26, 27, 28, 29, 30, 31, 32, 33, 34, 35, 36, 37, 38, 39, 40, 41, 42, 43, 44, 45, 46, 47, 48, 49, 50, 51, 52, 53, 54, 55, 56, 57, 58, 59, 60, 61, 62, 63, 64, 65, 66, 67, 68, 69, 70, 71, 72, 73, 74, 75, 76, 77, 78, 79, 80, 81, 82, 83, 84, 85, 86, 87, 88, 89, 90, 91, 92, 93, 94, 95, 96, 97, 98, 99, 100, 101, 102, 103, 104, 105, 106, 107, 108, 109, 110, 111, 112, 113, 114, 115, 116, 117, 121, 122, 123, 124, 125, 126, 127, 128, 129, 130, 131, 132, 133, 134, 135, 136, 137, 138, 139, 140, 141, 142, 143, 144, 145, 146, 147, 148, 149, 150] rfl (by decide +kernel)
set_option maxRecDepth 20000 in
theorem gX8_truth_X8_verdict : GoodIn wsX8_truth (wsV RX8 236 RX8 yX8_verdict wsX8_verdict) := goodIn_app (goodIn_of _ (by decide +kernel)) ggX8_truth_X8_verdict
theorem dX8_truth_0 : decode cX8_truth 0 = .ok (.iconst 0, 1) := by decide +kernel
theorem dX8_truth_1 : decode cX8_truth 1 = .ok (.istore_n 1, 1) := by decide +kernel
theorem dX8_truth_2 : decode cX8_truth 2 = .ok (.iconst 0, 1) := by decide +kernel
theorem dX8_truth_3 : decode cX8_truth 3 = .ok (.istore_n 2, 1) := by decide +kernel
theorem dX8_truth_4 : decode cX8_truth 4 = .ok (.iconst 0, 1) := by decide +kernel
theorem dX8_truth_5 : decode cX8_truth 5 = .ok (.istore_n 3, 1) := by decide +kernel
theorem dX8_truth_6 : decode cX8_truth 6 = .ok (.iload_n 3, 1) := by decide +kernel
theorem dX8_truth_7 : decode cX8_truth 7 = .ok (.aload_n 0, 1) := by decide +kernel
theorem dX8_truth_8 : decode cX8_truth 8 = .ok (.getfield 38, 3) := by decide +kernel
theorem dX8_truth_11 : decode cX8_truth 11 = .ok (.getfield 70, 3) := by decide +kernel
theorem dX8_truth_14 : decode cX8_truth 14 = .ok (.if_icmp .ge 50, 3) := by decide +kernel
theorem dX8_truth_17 : decode cX8_truth 17 = .ok (.aload_n 0, 1) := by decide +kernel
theorem dX8_truth_18 : decode cX8_truth 18 = .ok (.aload_n 0, 1) := by decide +kernel
theorem dX8_truth_19 : decode cX8_truth 19 = .ok (.getfield 38, 3) := by decide +kernel
theorem dX8_truth_22 : decode cX8_truth 22 = .ok (.iload_n 3, 1) := by decide +kernel
theorem dX8_truth_23 : decode cX8_truth 23 = .ok (.invokevirtual 233, 3) := by decide +kernel
theorem dX8_truth_26 : decode cX8_truth 26 = .ok (.invokevirtual 236, 3) := by decide +kernel
theorem dX8_truth_29 : decode cX8_truth 29 = .ok (.istore 4, 2) := by decide +kernel
theorem dX8_truth_31 : decode cX8_truth 31 = .ok (.iload_n 1, 1) := by decide +kernel
theorem dX8_truth_32 : decode cX8_truth 32 = .ok (.iload 4, 2) := by decide +kernel
theorem dX8_truth_34 : decode cX8_truth 34 = .ok (.iconst 1, 1) := by decide +kernel
theorem dX8_truth_35 : decode cX8_truth 35 = .ok (.if_icmp .ne 7, 3) := by decide +kernel
theorem dX8_truth_38 : decode cX8_truth 38 = .ok (.iconst 1, 1) := by decide +kernel
theorem dX8_truth_39 : decode cX8_truth 39 = .ok (.goto 4, 3) := by decide +kernel
theorem dX8_truth_42 : decode cX8_truth 42 = .ok (.iconst 0, 1) := by decide +kernel
theorem dX8_truth_43 : decode cX8_truth 43 = .ok (.iadd, 1) := by decide +kernel
theorem dX8_truth_44 : decode cX8_truth 44 = .ok (.istore_n 1, 1) := by decide +kernel
theorem dX8_truth_45 : decode cX8_truth 45 = .ok (.iload_n 2, 1) := by decide +kernel
theorem dX8_truth_46 : decode cX8_truth 46 = .ok (.iload 4, 2) := by decide +kernel
theorem dX8_truth_48 : decode cX8_truth 48 = .ok (.ifCond .lt 7, 3) := by decide +kernel
theorem dX8_truth_51 : decode cX8_truth 51 = .ok (.iconst 1, 1) := by decide +kernel
theorem dX8_truth_52 : decode cX8_truth 52 = .ok (.goto 4, 3) := by decide +kernel
theorem dX8_truth_55 : decode cX8_truth 55 = .ok (.iconst 0, 1) := by decide +kernel
theorem dX8_truth_56 : decode cX8_truth 56 = .ok (.iadd, 1) := by decide +kernel
theorem dX8_truth_57 : decode cX8_truth 57 = .ok (.istore_n 2, 1) := by decide +kernel
theorem dX8_truth_58 : decode cX8_truth 58 = .ok (.iinc 3 1, 3) := by decide +kernel
theorem dX8_truth_61 : decode cX8_truth 61 = .ok (.goto (-55), 3) := by decide +kernel
theorem dX8_truth_64 : decode cX8_truth 64 = .ok (.iload_n 2, 1) := by decide +kernel
theorem dX8_truth_65 : decode cX8_truth 65 = .ok (.ifCond .ne 7, 3) := by decide +kernel
theorem dX8_truth_68 : decode cX8_truth 68 = .ok (.dconst 1, 1) := by decide +kernel
theorem dX8_truth_69 : decode cX8_truth 69 = .ok (.goto 8, 3) := by decide +kernel
theorem dX8_truth_72 : decode cX8_truth 72 = .ok (.iload_n 1, 1) := by decide +kernel
theorem dX8_truth_73 : decode cX8_truth 73 = .ok (.i2d, 1) := by decide +kernel
theorem dX8_truth_74 : decode cX8_truth 74 = .ok (.iload_n 2, 1) := by decide +kernel
theorem dX8_truth_75 : decode cX8_truth 75 = .ok (.i2d, 1) := by decide +kernel
theorem dX8_truth_76 : decode cX8_truth 76 = .ok (.ddiv, 1) := by decide +kernel
theorem dX8_truth_77 : decode cX8_truth 77 = .ok (.dreturn, 1) := by decide +kernel
set_option maxRecDepth 20000 in
theorem ggX8_digest_X6_freePoints : GoodIn wsX8_digest wsX6_freePoints := goodIn_r _ [13, 14, 15, 16, 17, 18, 12, 19, 20, 21, 155, 156, 157, 161, 162, 163, 164, 165, 166, 167, 168, 169, 170, 171, 172, 173] rfl (by decide +kernel)
set_option maxRecDepth 20000 in
theorem gX8_digest_X6_freePoints : GoodIn wsX8_digest (wsV RX8 88 RX6 yX6_freePoints wsX6_freePoints) := goodIn_app (goodIn_of _ (by decide +kernel)) ggX8_digest_X6_freePoints
set_option maxRecDepth 20000 in
theorem ggX8_digest_X6_lackingOnes : GoodIn wsX8_digest wsX6_lackingOnes := goodIn_r _ [25, 14, 26, 16, 17, 18, 12, 19, 20, 21, 155, 156, 157, 161, 162, 163, 164, 165, 166, 167, 168, 169, 170, 171, 172, 173] rfl (by decide +kernel)
set_option maxRecDepth 20000 in
theorem gX8_digest_X6_lackingOnes : GoodIn wsX8_digest (wsV RX8 92 RX6 yX6_lackingOnes wsX6_lackingOnes) := goodIn_app (goodIn_of _ (by decide +kernel)) ggX8_digest_X6_lackingOnes
set_option maxRecDepth 20000 in
theorem ggX8_digest_X6_at : GoodIn wsX8_digest wsX6_at := goodIn_r _ [19, 14, 20, 21, 155, 156, 157] rfl (by decide +kernel)
set_option maxRecDepth 20000 in
theorem gX8_digest_X6_at : GoodIn wsX8_digest (wsV RX8 103 RX6 yX6_at wsX6_at) := goodIn_app (goodIn_of _ (by decide +kernel)) ggX8_digest_X6_at
set_option maxRecDepth 20000 in
theorem ggX8_digest_X4_addTo : GoodIn wsX8_digest wsX4_addTo := goodIn_r _ [32, 33, 34, 35, 36, 37, 38, 39, 40, 31, 41, 42, 43, 44, 45, 46, 47, 48, 49, 161, 162, 163, 164, 165, 166, 167, 168, 169, 170, 171, 172, 173] rfl (by decide +kernel)
set_option maxRecDepth 20000 in
theorem gX8_digest_X4_addTo : GoodIn wsX8_digest (wsV RX8 283 RX4 yX4_addTo wsX4_addTo) := goodIn_app (goodIn_of _ (by decide +kernel)) ggX8_digest_X4_addTo
set_option maxRecDepth 20000 in
theorem ggX8_digest_X1_at : GoodIn wsX8_digest wsX1_at := goodIn_r _ [54, 55, 56, 57, 158, 159, 160] rfl (by decide +kernel)
set_option maxRecDepth 20000 in
theorem gX8_digest_X1_at : GoodIn wsX8_digest (wsV RX8 233 RX1 yX1_at wsX1_at) := goodIn_app (goodIn_of _ (by decide +kernel)) ggX8_digest_X1_at
set_option maxRecDepth 20000 in
theorem ggX8_digest_X8_verdict : GoodIn wsX8_digest wsX8_verdict := goodIn_r _ [62, 5, 63, 64, 65, 66, 67, 68, 69, 27, 17, 18, 12, 19, 14, 20, 21, 70, 71, 72, 73, 74, 75, 76, 77, 78, 79, 80, 81, 82, 83, 84, 85, 86, 87, 88, 89, 90, 91, 92, 93, 94, 95, 96, 97, 98, 99, 100, 101, 102, 103, 104, 105, 106, 107, 108, 109, 110, 111, 112, 113, 114, 115, 116, 117, 31, 118, 35, 36, 37, 119, 120, 121, 122, 123, 124, 125, 126, 127, 128, 129, 130, 131, 132, 133, 134, 135, 136, 137, 138, 139, 140, 141, 142, 143, 144, 145, 146, 147, 148, 149, 150, 151, 174, 175, 176, 177, 178, 161, 162, 163, 164, 165, 166, 167, 168, 169, 170, 171, 172, 173, 155, 156, 157, 179, 180, 181, 182, 183, 184, 152, 153, 154] rfl (by decide +kernel)
set_option maxRecDepth 20000 in
theorem gX8_digest_X8_verdict : GoodIn wsX8_digest (wsV RX8 236 RX8 yX8_verdict wsX8_verdict) := goodIn_app (goodIn_of _ (by decide +kernel)) ggX8_digest_X8_verdict
theorem dX8_digest_0 : decode cX8_digest 0 = .ok (.ldc2_w 279, 3) := by decide +kernel
theorem dX8_digest_3 : decode cX8_digest 3 = .ok (.lstore_n 1, 1) := by decide +kernel
theorem dX8_digest_4 : decode cX8_digest 4 = .ok (.lload_n 1, 1) := by decide +kernel
theorem dX8_digest_5 : decode cX8_digest 5 = .ok (.ldc2_w 281, 3) := by decide +kernel
theorem dX8_digest_8 : decode cX8_digest 8 = .ok (.lmul, 1) := by decide +kernel
theorem dX8_digest_9 : decode cX8_digest 9 = .ok (.aload_n 0, 1) := by decide +kernel
theorem dX8_digest_10 : decode cX8_digest 10 = .ok (.getfield 27, 3) := by decide +kernel
theorem dX8_digest_13 : decode cX8_digest 13 = .ok (.getfield 85, 3) := by decide +kernel
theorem dX8_digest_16 : decode cX8_digest 16 = .ok (.i2l, 1) := by decide +kernel
theorem dX8_digest_17 : decode cX8_digest 17 = .ok (.ladd, 1) := by decide +kernel
theorem dX8_digest_18 : decode cX8_digest 18 = .ok (.lstore_n 1, 1) := by decide +kernel
theorem dX8_digest_19 : decode cX8_digest 19 = .ok (.lload_n 1, 1) := by decide +kernel
theorem dX8_digest_20 : decode cX8_digest 20 = .ok (.ldc2_w 281, 3) := by decide +kernel
theorem dX8_digest_23 : decode cX8_digest 23 = .ok (.lmul, 1) := by decide +kernel
theorem dX8_digest_24 : decode cX8_digest 24 = .ok (.aload_n 0, 1) := by decide +kernel
theorem dX8_digest_25 : decode cX8_digest 25 = .ok (.getfield 31, 3) := by decide +kernel
theorem dX8_digest_28 : decode cX8_digest 28 = .ok (.getfield 66, 3) := by decide +kernel
theorem dX8_digest_31 : decode cX8_digest 31 = .ok (.i2l, 1) := by decide +kernel
theorem dX8_digest_32 : decode cX8_digest 32 = .ok (.ladd, 1) := by decide +kernel
theorem dX8_digest_33 : decode cX8_digest 33 = .ok (.lstore_n 1, 1) := by decide +kernel
theorem dX8_digest_34 : decode cX8_digest 34 = .ok (.lload_n 1, 1) := by decide +kernel
theorem dX8_digest_35 : decode cX8_digest 35 = .ok (.ldc2_w 281, 3) := by decide +kernel
theorem dX8_digest_38 : decode cX8_digest 38 = .ok (.lmul, 1) := by decide +kernel
theorem dX8_digest_39 : decode cX8_digest 39 = .ok (.aload_n 0, 1) := by decide +kernel
theorem dX8_digest_40 : decode cX8_digest 40 = .ok (.getfield 38, 3) := by decide +kernel
theorem dX8_digest_43 : decode cX8_digest 43 = .ok (.getfield 70, 3) := by decide +kernel
theorem dX8_digest_46 : decode cX8_digest 46 = .ok (.i2l, 1) := by decide +kernel
theorem dX8_digest_47 : decode cX8_digest 47 = .ok (.ladd, 1) := by decide +kernel
theorem dX8_digest_48 : decode cX8_digest 48 = .ok (.lstore_n 1, 1) := by decide +kernel
theorem dX8_digest_49 : decode cX8_digest 49 = .ok (.lload_n 1, 1) := by decide +kernel
theorem dX8_digest_50 : decode cX8_digest 50 = .ok (.ldc2_w 281, 3) := by decide +kernel
theorem dX8_digest_53 : decode cX8_digest 53 = .ok (.lmul, 1) := by decide +kernel
theorem dX8_digest_54 : decode cX8_digest 54 = .ok (.aload_n 0, 1) := by decide +kernel
theorem dX8_digest_55 : decode cX8_digest 55 = .ok (.getfield 31, 3) := by decide +kernel
theorem dX8_digest_58 : decode cX8_digest 58 = .ok (.invokevirtual 88, 3) := by decide +kernel
theorem dX8_digest_61 : decode cX8_digest 61 = .ok (.i2l, 1) := by decide +kernel
theorem dX8_digest_62 : decode cX8_digest 62 = .ok (.ladd, 1) := by decide +kernel
theorem dX8_digest_63 : decode cX8_digest 63 = .ok (.lstore_n 1, 1) := by decide +kernel
theorem dX8_digest_64 : decode cX8_digest 64 = .ok (.lload_n 1, 1) := by decide +kernel
theorem dX8_digest_65 : decode cX8_digest 65 = .ok (.ldc2_w 281, 3) := by decide +kernel
theorem dX8_digest_68 : decode cX8_digest 68 = .ok (.lmul, 1) := by decide +kernel
theorem dX8_digest_69 : decode cX8_digest 69 = .ok (.aload_n 0, 1) := by decide +kernel
theorem dX8_digest_70 : decode cX8_digest 70 = .ok (.getfield 31, 3) := by decide +kernel
theorem dX8_digest_73 : decode cX8_digest 73 = .ok (.invokevirtual 92, 3) := by decide +kernel
theorem dX8_digest_76 : decode cX8_digest 76 = .ok (.i2l, 1) := by decide +kernel
theorem dX8_digest_77 : decode cX8_digest 77 = .ok (.ladd, 1) := by decide +kernel
theorem dX8_digest_78 : decode cX8_digest 78 = .ok (.lstore_n 1, 1) := by decide +kernel
theorem dX8_digest_79 : decode cX8_digest 79 = .ok (.iconst 0, 1) := by decide +kernel
theorem dX8_digest_80 : decode cX8_digest 80 = .ok (.istore_n 3, 1) := by decide +kernel
theorem dX8_digest_81 : decode cX8_digest 81 = .ok (.iload_n 3, 1) := by decide +kernel
theorem dX8_digest_82 : decode cX8_digest 82 = .ok (.aload_n 0, 1) := by decide +kernel
theorem dX8_digest_83 : decode cX8_digest 83 = .ok (.getfield 31, 3) := by decide +kernel
theorem dX8_digest_86 : decode cX8_digest 86 = .ok (.getfield 66, 3) := by decide +kernel
theorem dX8_digest_89 : decode cX8_digest 89 = .ok (.if_icmp .ge 22, 3) := by decide +kernel
theorem dX8_digest_92 : decode cX8_digest 92 = .ok (.aload_n 0, 1) := by decide +kernel
theorem dX8_digest_93 : decode cX8_digest 93 = .ok (.getfield 31, 3) := by decide +kernel
theorem dX8_digest_96 : decode cX8_digest 96 = .ok (.iload_n 3, 1) := by decide +kernel
theorem dX8_digest_97 : decode cX8_digest 97 = .ok (.invokevirtual 103, 3) := by decide +kernel
theorem dX8_digest_100 : decode cX8_digest 100 = .ok (.lload_n 1, 1) := by decide +kernel
theorem dX8_digest_101 : decode cX8_digest 101 = .ok (.invokevirtual 283, 3) := by decide +kernel
theorem dX8_digest_104 : decode cX8_digest 104 = .ok (.lstore_n 1, 1) := by decide +kernel
theorem dX8_digest_105 : decode cX8_digest 105 = .ok (.iinc 3 1, 3) := by decide +kernel
theorem dX8_digest_108 : decode cX8_digest 108 = .ok (.goto (-27), 3) := by decide +kernel
theorem dX8_digest_111 : decode cX8_digest 111 = .ok (.iconst 0, 1) := by decide +kernel
theorem dX8_digest_112 : decode cX8_digest 112 = .ok (.istore_n 3, 1) := by decide +kernel
theorem dX8_digest_113 : decode cX8_digest 113 = .ok (.iload_n 3, 1) := by decide +kernel
theorem dX8_digest_114 : decode cX8_digest 114 = .ok (.aload_n 0, 1) := by decide +kernel
theorem dX8_digest_115 : decode cX8_digest 115 = .ok (.getfield 38, 3) := by decide +kernel
theorem dX8_digest_118 : decode cX8_digest 118 = .ok (.getfield 70, 3) := by decide +kernel
theorem dX8_digest_121 : decode cX8_digest 121 = .ok (.if_icmp .ge 29, 3) := by decide +kernel
theorem dX8_digest_124 : decode cX8_digest 124 = .ok (.lload_n 1, 1) := by decide +kernel
theorem dX8_digest_125 : decode cX8_digest 125 = .ok (.ldc2_w 281, 3) := by decide +kernel
theorem dX8_digest_128 : decode cX8_digest 128 = .ok (.lmul, 1) := by decide +kernel
theorem dX8_digest_129 : decode cX8_digest 129 = .ok (.aload_n 0, 1) := by decide +kernel
theorem dX8_digest_130 : decode cX8_digest 130 = .ok (.aload_n 0, 1) := by decide +kernel
theorem dX8_digest_131 : decode cX8_digest 131 = .ok (.getfield 38, 3) := by decide +kernel
theorem dX8_digest_134 : decode cX8_digest 134 = .ok (.iload_n 3, 1) := by decide +kernel
theorem dX8_digest_135 : decode cX8_digest 135 = .ok (.invokevirtual 233, 3) := by decide +kernel
theorem dX8_digest_138 : decode cX8_digest 138 = .ok (.invokevirtual 236, 3) := by decide +kernel
theorem dX8_digest_141 : decode cX8_digest 141 = .ok (.i2l, 1) := by decide +kernel
theorem dX8_digest_142 : decode cX8_digest 142 = .ok (.ladd, 1) := by decide +kernel
theorem dX8_digest_143 : decode cX8_digest 143 = .ok (.lstore_n 1, 1) := by decide +kernel
theorem dX8_digest_144 : decode cX8_digest 144 = .ok (.iinc 3 1, 3) := by decide +kernel
theorem dX8_digest_147 : decode cX8_digest 147 = .ok (.goto (-34), 3) := by decide +kernel
theorem dX8_digest_150 : decode cX8_digest 150 = .ok (.lload_n 1, 1) := by decide +kernel
theorem dX8_digest_151 : decode cX8_digest 151 = .ok (.lreturn, 1) := by decide +kernel
set_option maxRecDepth 20000 in
theorem ggX8_isWayToMake_X8_entry : GoodIn wsX8_isWayToMake wsX8_entry := goodIn_r _ [5] rfl (by decide +kernel)
set_option maxRecDepth 20000 in
theorem gX8_isWayToMake_X8_entry : GoodIn wsX8_isWayToMake (va_wsS RX8 149 yX8_entry wsX8_entry) := goodIn_app (goodIn_of _ (by decide +kernel)) ggX8_isWayToMake_X8_entry
theorem dX8_isWayToMake_0 : decode cX8_isWayToMake 0 = .ok (.iload_n 0, 1) := by decide +kernel
theorem dX8_isWayToMake_1 : decode cX8_isWayToMake 1 = .ok (.iconst 1, 1) := by decide +kernel
theorem dX8_isWayToMake_2 : decode cX8_isWayToMake 2 = .ok (.if_icmp .le 26, 3) := by decide +kernel
theorem dX8_isWayToMake_5 : decode cX8_isWayToMake 5 = .ok (.iload_n 0, 1) := by decide +kernel
theorem dX8_isWayToMake_6 : decode cX8_isWayToMake 6 = .ok (.bipush 22, 2) := by decide +kernel
theorem dX8_isWayToMake_8 : decode cX8_isWayToMake 8 = .ok (.if_icmp .gt 20, 3) := by decide +kernel
theorem dX8_isWayToMake_11 : decode cX8_isWayToMake 11 = .ok (.getstatic 145, 3) := by decide +kernel
theorem dX8_isWayToMake_14 : decode cX8_isWayToMake 14 = .ok (.iconst 3, 1) := by decide +kernel
theorem dX8_isWayToMake_15 : decode cX8_isWayToMake 15 = .ok (.iload_n 0, 1) := by decide +kernel
theorem dX8_isWayToMake_16 : decode cX8_isWayToMake 16 = .ok (.imul, 1) := by decide +kernel
theorem dX8_isWayToMake_17 : decode cX8_isWayToMake 17 = .ok (.invokestatic 149, 3) := by decide +kernel
theorem dX8_isWayToMake_20 : decode cX8_isWayToMake 20 = .ok (.iconst (-1), 1) := by decide +kernel
theorem dX8_isWayToMake_21 : decode cX8_isWayToMake 21 = .ok (.if_icmp .eq 7, 3) := by decide +kernel
theorem dX8_isWayToMake_24 : decode cX8_isWayToMake 24 = .ok (.iconst 1, 1) := by decide +kernel
theorem dX8_isWayToMake_25 : decode cX8_isWayToMake 25 = .ok (.goto 4, 3) := by decide +kernel
theorem dX8_isWayToMake_28 : decode cX8_isWayToMake 28 = .ok (.iconst 0, 1) := by decide +kernel
theorem dX8_isWayToMake_29 : decode cX8_isWayToMake 29 = .ok (.ireturn, 1) := by decide +kernel
theorem dX8_entry_0 : decode cX8_entry 0 = .ok (.iload_n 1, 1) := by decide +kernel
theorem dX8_entry_1 : decode cX8_entry 1 = .ok (.ifCond .lt 15, 3) := by decide +kernel
theorem dX8_entry_4 : decode cX8_entry 4 = .ok (.iload_n 1, 1) := by decide +kernel
theorem dX8_entry_5 : decode cX8_entry 5 = .ok (.aload_n 0, 1) := by decide +kernel
theorem dX8_entry_6 : decode cX8_entry 6 = .ok (.arraylength, 1) := by decide +kernel
theorem dX8_entry_7 : decode cX8_entry 7 = .ok (.if_icmp .ge 9, 3) := by decide +kernel
theorem dX8_entry_10 : decode cX8_entry 10 = .ok (.aload_n 0, 1) := by decide +kernel
theorem dX8_entry_11 : decode cX8_entry 11 = .ok (.iload_n 1, 1) := by decide +kernel
theorem dX8_entry_12 : decode cX8_entry 12 = .ok (.iaload, 1) := by decide +kernel
theorem dX8_entry_13 : decode cX8_entry 13 = .ok (.goto 4, 3) := by decide +kernel
theorem dX8_entry_16 : decode cX8_entry 16 = .ok (.iconst (-1), 1) := by decide +kernel
theorem dX8_entry_17 : decode cX8_entry 17 = .ok (.ireturn, 1) := by decide +kernel
set_option maxRecDepth 20000 in
theorem ggX8_isThere_X6_has : GoodIn wsX8_isThere wsX6_has := goodIn_r _ [6, 7, 14, 15, 16] rfl (by decide +kernel)
set_option maxRecDepth 20000 in
theorem gX8_isThere_X6_has : GoodIn wsX8_isThere (wsV RX8 100 RX6 yX6_has wsX6_has) := goodIn_app (goodIn_of _ (by decide +kernel)) ggX8_isThere_X6_has
theorem dX8_isThere_0 : decode cX8_isThere 0 = .ok (.iload_n 2, 1) := by decide +kernel
theorem dX8_isThere_1 : decode cX8_isThere 1 = .ok (.iconst (-1), 1) := by decide +kernel
theorem dX8_isThere_2 : decode cX8_isThere 2 = .ok (.if_icmp .eq 14, 3) := by decide +kernel
theorem dX8_isThere_5 : decode cX8_isThere 5 = .ok (.aload_n 0, 1) := by decide +kernel
theorem dX8_isThere_6 : decode cX8_isThere 6 = .ok (.getfield 31, 3) := by decide +kernel
theorem dX8_isThere_9 : decode cX8_isThere 9 = .ok (.iload_n 1, 1) := by decide +kernel
theorem dX8_isThere_10 : decode cX8_isThere 10 = .ok (.invokevirtual 100, 3) := by decide +kernel
theorem dX8_isThere_13 : decode cX8_isThere 13 = .ok (.ifCond .eq 7, 3) := by decide +kernel
theorem dX8_isThere_16 : decode cX8_isThere 16 = .ok (.iconst 1, 1) := by decide +kernel
theorem dX8_isThere_17 : decode cX8_isThere 17 = .ok (.goto 4, 3) := by decide +kernel
theorem dX8_isThere_20 : decode cX8_isThere 20 = .ok (.iconst 0, 1) := by decide +kernel
theorem dX8_isThere_21 : decode cX8_isThere 21 = .ok (.ireturn, 1) := by decide +kernel
set_option maxRecDepth 20000 in
theorem ggX8_fits_X6_at : GoodIn wsX8_fits wsX6_at := goodIn_r _ [6, 7, 8, 9, 22, 23, 24] rfl (by decide +kernel)
set_option maxRecDepth 20000 in
theorem gX8_fits_X6_at : GoodIn wsX8_fits (wsV RX8 103 RX6 yX6_at wsX6_at) := goodIn_app (goodIn_of _ (by decide +kernel)) ggX8_fits_X6_at
set_option maxRecDepth 20000 in
theorem ggX8_fits_X4_sort : GoodIn wsX8_fits wsX4_sort := goodIn_r _ [14, 15, 25, 26, 27, 28, 29, 30, 31, 32, 33, 34, 35, 36, 37] rfl (by decide +kernel)
set_option maxRecDepth 20000 in
theorem gX8_fits_X4_sort : GoodIn wsX8_fits (wsV RX8 107 RX4 yX4_sort wsX4_sort) := goodIn_app (goodIn_of _ (by decide +kernel)) ggX8_fits_X4_sort
theorem dX8_fits_0 : decode cX8_fits 0 = .ok (.iload_n 2, 1) := by decide +kernel
theorem dX8_fits_1 : decode cX8_fits 1 = .ok (.iconst (-1), 1) := by decide +kernel
theorem dX8_fits_2 : decode cX8_fits 2 = .ok (.if_icmp .ne 13, 3) := by decide +kernel
theorem dX8_fits_5 : decode cX8_fits 5 = .ok (.iload_n 1, 1) := by decide +kernel
theorem dX8_fits_6 : decode cX8_fits 6 = .ok (.ifCond .ne 7, 3) := by decide +kernel
theorem dX8_fits_9 : decode cX8_fits 9 = .ok (.iconst 1, 1) := by decide +kernel
theorem dX8_fits_10 : decode cX8_fits 10 = .ok (.goto 4, 3) := by decide +kernel
theorem dX8_fits_13 : decode cX8_fits 13 = .ok (.iconst 0, 1) := by decide +kernel
theorem dX8_fits_14 : decode cX8_fits 14 = .ok (.ireturn, 1) := by decide +kernel
theorem dX8_fits_15 : decode cX8_fits 15 = .ok (.iload_n 2, 1) := by decide +kernel
theorem dX8_fits_16 : decode cX8_fits 16 = .ok (.iconst 3, 1) := by decide +kernel
theorem dX8_fits_17 : decode cX8_fits 17 = .ok (.if_icmp .eq 18, 3) := by decide +kernel
theorem dX8_fits_20 : decode cX8_fits 20 = .ok (.aload_n 0, 1) := by decide +kernel
theorem dX8_fits_21 : decode cX8_fits 21 = .ok (.getfield 31, 3) := by decide +kernel
theorem dX8_fits_24 : decode cX8_fits 24 = .ok (.iload_n 1, 1) := by decide +kernel
theorem dX8_fits_25 : decode cX8_fits 25 = .ok (.invokevirtual 103, 3) := by decide +kernel
theorem dX8_fits_28 : decode cX8_fits 28 = .ok (.invokevirtual 107, 3) := by decide +kernel
theorem dX8_fits_31 : decode cX8_fits 31 = .ok (.iload_n 2, 1) := by decide +kernel
theorem dX8_fits_32 : decode cX8_fits 32 = .ok (.if_icmp .ne 7, 3) := by decide +kernel
theorem dX8_fits_35 : decode cX8_fits 35 = .ok (.iconst 1, 1) := by decide +kernel
theorem dX8_fits_36 : decode cX8_fits 36 = .ok (.goto 4, 3) := by decide +kernel
theorem dX8_fits_39 : decode cX8_fits 39 = .ok (.iconst 0, 1) := by decide +kernel
theorem dX8_fits_40 : decode cX8_fits 40 = .ok (.ireturn, 1) := by decide +kernel
set_option maxRecDepth 20000 in
theorem ggX8_remake_X6_at : GoodIn wsX8_remake wsX6_at := goodIn_r _ [11, 12, 13, 14, 141, 142, 143] rfl (by decide +kernel)
set_option maxRecDepth 20000 in
theorem gX8_remake_X6_at : GoodIn wsX8_remake (wsV RX8 103 RX6 yX6_at wsX6_at) := goodIn_app (goodIn_of _ (by decide +kernel)) ggX8_remake_X6_at
set_option maxRecDepth 20000 in
theorem ggX8_remake_X2_draw : GoodIn wsX8_remake wsX2_draw := goodIn_r _ [19, 20, 21, 22, 23, 24, 25, 26, 27, 28, 18, 29, 30, 31, 32, 33, 34, 35, 36, 37, 38, 39, 40, 41, 42, 43, 44, 45, 46, 47, 48, 49, 50, 51, 52, 53, 54, 55, 56, 57, 58, 59, 60, 61, 62, 63, 64, 65, 66, 67, 68, 69, 70, 71, 72, 73, 74, 75, 76, 77, 78, 79, 80, 81, 82, 83, 84, 85, 86, 87, 88, 89, 90, 91, 92, 93, 94, 95, 96, 97, 98, 99, 100, 101, 102, 103, 104, 105, 106, 107, 108, 109, 110, 111, 112, 113, 114, 115, 116, 117, 118, 119, 120, 121, 128, 129, 130, 131, 132, 133, 134, 135, 136, 137, 138, 139, 140, 144, 145, 146, 147, 148] rfl (by decide +kernel)
set_option maxRecDepth 20000 in
theorem gX8_remake_X2_draw : GoodIn wsX8_remake (wsV RX8 296 RX2 yX2_draw wsX2_draw) := goodIn_app (goodIn_of _ (by decide +kernel)) ggX8_remake_X2_draw
theorem dX8_remake_0 : decode cX8_remake 0 = .ok (.aload_n 0, 1) := by decide +kernel
theorem dX8_remake_1 : decode cX8_remake 1 = .ok (.getfield 31, 3) := by decide +kernel
theorem dX8_remake_4 : decode cX8_remake 4 = .ok (.aload_n 1, 1) := by decide +kernel
theorem dX8_remake_5 : decode cX8_remake 5 = .ok (.getfield 287, 3) := by decide +kernel
theorem dX8_remake_8 : decode cX8_remake 8 = .ok (.invokevirtual 103, 3) := by decide +kernel
theorem dX8_remake_11 : decode cX8_remake 11 = .ok (.astore_n 2, 1) := by decide +kernel
theorem dX8_remake_12 : decode cX8_remake 12 = .ok (.aload_n 0, 1) := by decide +kernel
theorem dX8_remake_13 : decode cX8_remake 13 = .ok (.getfield 31, 3) := by decide +kernel
theorem dX8_remake_16 : decode cX8_remake 16 = .ok (.aload_n 1, 1) := by decide +kernel
theorem dX8_remake_17 : decode cX8_remake 17 = .ok (.getfield 290, 3) := by decide +kernel
theorem dX8_remake_20 : decode cX8_remake 20 = .ok (.invokevirtual 103, 3) := by decide +kernel
theorem dX8_remake_23 : decode cX8_remake 23 = .ok (.astore_n 3, 1) := by decide +kernel
theorem dX8_remake_24 : decode cX8_remake 24 = .ok (.aload_n 0, 1) := by decide +kernel
theorem dX8_remake_25 : decode cX8_remake 25 = .ok (.getfield 31, 3) := by decide +kernel
theorem dX8_remake_28 : decode cX8_remake 28 = .ok (.aload_n 1, 1) := by decide +kernel
theorem dX8_remake_29 : decode cX8_remake 29 = .ok (.getfield 293, 3) := by decide +kernel
theorem dX8_remake_32 : decode cX8_remake 32 = .ok (.invokevirtual 103, 3) := by decide +kernel
theorem dX8_remake_35 : decode cX8_remake 35 = .ok (.astore 4, 2) := by decide +kernel
theorem dX8_remake_37 : decode cX8_remake 37 = .ok (.aload_n 2, 1) := by decide +kernel
theorem dX8_remake_38 : decode cX8_remake 38 = .ok (.getfield 188, 3) := by decide +kernel
theorem dX8_remake_41 : decode cX8_remake 41 = .ok (.ifCond .ne 18, 3) := by decide +kernel
theorem dX8_remake_44 : decode cX8_remake 44 = .ok (.aload_n 3, 1) := by decide +kernel
theorem dX8_remake_45 : decode cX8_remake 45 = .ok (.getfield 188, 3) := by decide +kernel
theorem dX8_remake_48 : decode cX8_remake 48 = .ok (.ifCond .ne 11, 3) := by decide +kernel
theorem dX8_remake_51 : decode cX8_remake 51 = .ok (.aload 4, 2) := by decide +kernel
theorem dX8_remake_53 : decode cX8_remake 53 = .ok (.getfield 188, 3) := by decide +kernel
theorem dX8_remake_56 : decode cX8_remake 56 = .ok (.ifCond .eq 7, 3) := by decide +kernel
theorem dX8_remake_59 : decode cX8_remake 59 = .ok (.iconst 1, 1) := by decide +kernel
theorem dX8_remake_60 : decode cX8_remake 60 = .ok (.goto 4, 3) := by decide +kernel
theorem dX8_remake_63 : decode cX8_remake 63 = .ok (.iconst 0, 1) := by decide +kernel
theorem dX8_remake_64 : decode cX8_remake 64 = .ok (.istore 5, 2) := by decide +kernel
theorem dX8_remake_66 : decode cX8_remake 66 = .ok (.aload_n 1, 1) := by decide +kernel
theorem dX8_remake_67 : decode cX8_remake 67 = .ok (.iload 5, 2) := by decide +kernel
theorem dX8_remake_69 : decode cX8_remake 69 = .ok (.ifCond .ne 18, 3) := by decide +kernel
theorem dX8_remake_72 : decode cX8_remake 72 = .ok (.aload_n 0, 1) := by decide +kernel
theorem dX8_remake_73 : decode cX8_remake 73 = .ok (.getfield 20, 3) := by decide +kernel
theorem dX8_remake_76 : decode cX8_remake 76 = .ok (.aload_n 1, 1) := by decide +kernel
theorem dX8_remake_77 : decode cX8_remake 77 = .ok (.aload_n 2, 1) := by decide +kernel
theorem dX8_remake_78 : decode cX8_remake 78 = .ok (.aload_n 3, 1) := by decide +kernel
theorem dX8_remake_79 : decode cX8_remake 79 = .ok (.aload 4, 2) := by decide +kernel
theorem dX8_remake_81 : decode cX8_remake 81 = .ok (.invokevirtual 296, 3) := by decide +kernel
theorem dX8_remake_84 : decode cX8_remake 84 = .ok (.ifCond .ne 7, 3) := by decide +kernel
theorem dX8_remake_87 : decode cX8_remake 87 = .ok (.iconst 1, 1) := by decide +kernel
theorem dX8_remake_88 : decode cX8_remake 88 = .ok (.goto 4, 3) := by decide +kernel
theorem dX8_remake_91 : decode cX8_remake 91 = .ok (.iconst 0, 1) := by decide +kernel
theorem dX8_remake_92 : decode cX8_remake 92 = .ok (.putfield 188, 3) := by decide +kernel
theorem dX8_remake_95 : decode cX8_remake 95 = .ok (.return_, 1) := by decide +kernel
set_option maxRecDepth 20000 in
theorem ggX8_shift_X4_tell : GoodIn wsX8_shift wsX4_tell := goodIn_r _ [10, 11, 12, 137, 138, 139, 140, 141, 142, 143, 144, 145, 146, 147, 148, 149] rfl (by decide +kernel)
set_option maxRecDepth 20000 in
theorem gX8_shift_X4_tell : GoodIn wsX8_shift (wsV RX8 129 RX4 yX4_tell wsX4_tell) := goodIn_app (goodIn_of _ (by decide +kernel)) ggX8_shift_X4_tell
set_option maxRecDepth 20000 in
theorem ggX8_shift_X6_at : GoodIn wsX8_shift wsX6_at := goodIn_r _ [17, 18, 19, 20, 156, 157, 158] rfl (by decide +kernel)
set_option maxRecDepth 20000 in
theorem gX8_shift_X6_at : GoodIn wsX8_shift (wsV RX8 103 RX6 yX6_at wsX6_at) := goodIn_app (goodIn_of _ (by decide +kernel)) ggX8_shift_X6_at
set_option maxRecDepth 20000 in
theorem ggX8_shift_X8_remake : GoodIn wsX8_shift wsX8_remake := goodIn_r _ [25, 2, 26, 27, 28, 29, 30, 13, 14, 15, 16, 17, 18, 19, 20, 31, 32, 33, 34, 35, 36, 37, 38, 39, 40, 41, 42, 43, 44, 45, 46, 47, 48, 49, 50, 51, 52, 53, 54, 55, 56, 57, 58, 59, 9, 60, 61, 62, 63, 64, 65, 66, 67, 68, 69, 70, 71, 72, 73, 74, 75, 76, 77, 78, 79, 80, 81, 82, 83, 84, 85, 86, 87, 88, 89, 90, 91, 92, 93, 94, 95, 96, 97, 98, 99, 100, 101, 102, 103, 104, 105, 106, 107, 108, 109, 110, 111, 112, 113, 114, 115, 116, 117, 118, 119, 120, 121, 122, 123, 124, 125, 126, 127, 128, 129, 130, 131, 132, 133, 134, 135, 136, 150, 151, 152, 153, 154, 155, 137, 138, 139, 140, 141, 142, 143, 144, 145, 146, 147, 148, 149, 156, 157, 158, 159, 160, 161, 162, 163] rfl (by decide +kernel)
set_option maxRecDepth 20000 in
theorem gX8_shift_X8_remake : GoodIn wsX8_shift (wsV RX8 133 RX8 yX8_remake wsX8_remake) := goodIn_app (goodIn_of _ (by decide +kernel)) ggX8_shift_X8_remake
theorem dX8_shift_0 : decode cX8_shift 0 = .ok (.aload_n 1, 1) := by decide +kernel
theorem dX8_shift_1 : decode cX8_shift 1 = .ok (.iload_n 2, 1) := by decide +kernel
theorem dX8_shift_2 : decode cX8_shift 2 = .ok (.iload_n 3, 1) := by decide +kernel
theorem dX8_shift_3 : decode cX8_shift 3 = .ok (.invokevirtual 129, 3) := by decide +kernel
theorem dX8_shift_6 : decode cX8_shift 6 = .ok (.aload_n 1, 1) := by decide +kernel
theorem dX8_shift_7 : decode cX8_shift 7 = .ok (.getfield 137, 3) := by decide +kernel
theorem dX8_shift_10 : decode cX8_shift 10 = .ok (.istore 4, 2) := by decide +kernel
theorem dX8_shift_12 : decode cX8_shift 12 = .ok (.iload 4, 2) := by decide +kernel
theorem dX8_shift_14 : decode cX8_shift 14 = .ok (.aload_n 0, 1) := by decide +kernel
theorem dX8_shift_15 : decode cX8_shift 15 = .ok (.getfield 31, 3) := by decide +kernel
theorem dX8_shift_18 : decode cX8_shift 18 = .ok (.getfield 66, 3) := by decide +kernel
theorem dX8_shift_21 : decode cX8_shift 21 = .ok (.if_icmp .ge 42, 3) := by decide +kernel
theorem dX8_shift_24 : decode cX8_shift 24 = .ok (.aload_n 0, 1) := by decide +kernel
theorem dX8_shift_25 : decode cX8_shift 25 = .ok (.getfield 31, 3) := by decide +kernel
theorem dX8_shift_28 : decode cX8_shift 28 = .ok (.iload 4, 2) := by decide +kernel
theorem dX8_shift_30 : decode cX8_shift 30 = .ok (.invokevirtual 103, 3) := by decide +kernel
theorem dX8_shift_33 : decode cX8_shift 33 = .ok (.astore 5, 2) := by decide +kernel
theorem dX8_shift_35 : decode cX8_shift 35 = .ok (.aload 5, 2) := by decide +kernel
theorem dX8_shift_37 : decode cX8_shift 37 = .ok (.getfield 300, 3) := by decide +kernel
theorem dX8_shift_40 : decode cX8_shift 40 = .ok (.ifCond .eq 17, 3) := by decide +kernel
theorem dX8_shift_43 : decode cX8_shift 43 = .ok (.aload 5, 2) := by decide +kernel
theorem dX8_shift_45 : decode cX8_shift 45 = .ok (.getfield 303, 3) := by decide +kernel
theorem dX8_shift_48 : decode cX8_shift 48 = .ok (.ifCond .eq 9, 3) := by decide +kernel
theorem dX8_shift_51 : decode cX8_shift 51 = .ok (.aload_n 0, 1) := by decide +kernel
theorem dX8_shift_52 : decode cX8_shift 52 = .ok (.aload 5, 2) := by decide +kernel
theorem dX8_shift_54 : decode cX8_shift 54 = .ok (.invokevirtual 133, 3) := by decide +kernel
theorem dX8_shift_57 : decode cX8_shift 57 = .ok (.iinc 4 1, 3) := by decide +kernel
theorem dX8_shift_60 : decode cX8_shift 60 = .ok (.goto (-48), 3) := by decide +kernel
theorem dX8_shift_63 : decode cX8_shift 63 = .ok (.return_, 1) := by decide +kernel
set_option maxRecDepth 20000 in
theorem ggX8_verdict_X6_at : GoodIn wsX8_verdict wsX6_at := goodIn_r _ [13, 14, 15, 16, 121, 122, 123] rfl (by decide +kernel)
set_option maxRecDepth 20000 in
theorem gX8_verdict_X6_at : GoodIn wsX8_verdict (wsV RX8 103 RX6 yX6_at wsX6_at) := goodIn_app (goodIn_of _ (by decide +kernel)) ggX8_verdict_X6_at
set_option maxRecDepth 20000 in
theorem ggX8_verdict_X5_isTrue : GoodIn wsX8_verdict wsX5_isTrue := goodIn_r _ [21, 22, 23, 24, 25, 26, 27, 28, 29, 30, 31, 32, 33, 34, 35, 36, 37, 38, 39, 40, 41, 42, 43, 44, 45, 46, 47, 20, 48, 49, 50, 51, 52, 53, 54, 55, 56, 57, 58, 59, 60, 61, 62, 63, 64, 65, 66, 67, 68, 69, 70, 71, 72, 73, 74, 75, 76, 77, 78, 79, 80, 81, 82, 83, 84, 85, 86, 87, 88, 89, 90, 91, 92, 93, 94, 95, 96, 124, 125, 126, 127, 108, 109, 110, 111, 112, 113, 114, 115, 116, 117, 118, 119, 120, 128, 129, 130, 131, 132] rfl (by decide +kernel)
set_option maxRecDepth 20000 in
theorem gX8_verdict_X5_isTrue : GoodIn wsX8_verdict (wsV RX8 314 RX5 yX5_isTrue wsX5_isTrue) := goodIn_app (goodIn_of _ (by decide +kernel)) ggX8_verdict_X5_isTrue
theorem dX8_verdict_0 : decode cX8_verdict 0 = .ok (.aload_n 0, 1) := by decide +kernel
theorem dX8_verdict_1 : decode cX8_verdict 1 = .ok (.getfield 31, 3) := by decide +kernel
theorem dX8_verdict_4 : decode cX8_verdict 4 = .ok (.aload_n 1, 1) := by decide +kernel
theorem dX8_verdict_5 : decode cX8_verdict 5 = .ok (.getfield 306, 3) := by decide +kernel
theorem dX8_verdict_8 : decode cX8_verdict 8 = .ok (.invokevirtual 103, 3) := by decide +kernel
theorem dX8_verdict_11 : decode cX8_verdict 11 = .ok (.astore_n 2, 1) := by decide +kernel
theorem dX8_verdict_12 : decode cX8_verdict 12 = .ok (.aload_n 0, 1) := by decide +kernel
theorem dX8_verdict_13 : decode cX8_verdict 13 = .ok (.getfield 31, 3) := by decide +kernel
theorem dX8_verdict_16 : decode cX8_verdict 16 = .ok (.aload_n 1, 1) := by decide +kernel
theorem dX8_verdict_17 : decode cX8_verdict 17 = .ok (.getfield 307, 3) := by decide +kernel
theorem dX8_verdict_20 : decode cX8_verdict 20 = .ok (.invokevirtual 103, 3) := by decide +kernel
theorem dX8_verdict_23 : decode cX8_verdict 23 = .ok (.astore_n 3, 1) := by decide +kernel
theorem dX8_verdict_24 : decode cX8_verdict 24 = .ok (.aload_n 0, 1) := by decide +kernel
theorem dX8_verdict_25 : decode cX8_verdict 25 = .ok (.getfield 31, 3) := by decide +kernel
theorem dX8_verdict_28 : decode cX8_verdict 28 = .ok (.aload_n 1, 1) := by decide +kernel
theorem dX8_verdict_29 : decode cX8_verdict 29 = .ok (.getfield 308, 3) := by decide +kernel
theorem dX8_verdict_32 : decode cX8_verdict 32 = .ok (.invokevirtual 103, 3) := by decide +kernel
theorem dX8_verdict_35 : decode cX8_verdict 35 = .ok (.astore 4, 2) := by decide +kernel
theorem dX8_verdict_37 : decode cX8_verdict 37 = .ok (.aload_n 0, 1) := by decide +kernel
theorem dX8_verdict_38 : decode cX8_verdict 38 = .ok (.getfield 31, 3) := by decide +kernel
theorem dX8_verdict_41 : decode cX8_verdict 41 = .ok (.aload_n 1, 1) := by decide +kernel
theorem dX8_verdict_42 : decode cX8_verdict 42 = .ok (.getfield 309, 3) := by decide +kernel
theorem dX8_verdict_45 : decode cX8_verdict 45 = .ok (.invokevirtual 103, 3) := by decide +kernel
theorem dX8_verdict_48 : decode cX8_verdict 48 = .ok (.astore 5, 2) := by decide +kernel
theorem dX8_verdict_50 : decode cX8_verdict 50 = .ok (.aload_n 2, 1) := by decide +kernel
theorem dX8_verdict_51 : decode cX8_verdict 51 = .ok (.getfield 188, 3) := by decide +kernel
theorem dX8_verdict_54 : decode cX8_verdict 54 = .ok (.ifCond .ne 26, 3) := by decide +kernel
theorem dX8_verdict_57 : decode cX8_verdict 57 = .ok (.aload_n 3, 1) := by decide +kernel
theorem dX8_verdict_58 : decode cX8_verdict 58 = .ok (.getfield 188, 3) := by decide +kernel
theorem dX8_verdict_61 : decode cX8_verdict 61 = .ok (.ifCond .ne 19, 3) := by decide +kernel
theorem dX8_verdict_64 : decode cX8_verdict 64 = .ok (.aload 4, 2) := by decide +kernel
theorem dX8_verdict_66 : decode cX8_verdict 66 = .ok (.getfield 188, 3) := by decide +kernel
theorem dX8_verdict_69 : decode cX8_verdict 69 = .ok (.ifCond .ne 11, 3) := by decide +kernel
theorem dX8_verdict_72 : decode cX8_verdict 72 = .ok (.aload 5, 2) := by decide +kernel
theorem dX8_verdict_74 : decode cX8_verdict 74 = .ok (.getfield 188, 3) := by decide +kernel
theorem dX8_verdict_77 : decode cX8_verdict 77 = .ok (.ifCond .eq 5, 3) := by decide +kernel
theorem dX8_verdict_80 : decode cX8_verdict 80 = .ok (.iconst (-1), 1) := by decide +kernel
theorem dX8_verdict_81 : decode cX8_verdict 81 = .ok (.ireturn, 1) := by decide +kernel
theorem dX8_verdict_82 : decode cX8_verdict 82 = .ok (.aload_n 0, 1) := by decide +kernel
theorem dX8_verdict_83 : decode cX8_verdict 83 = .ok (.getfield 10, 3) := by decide +kernel
theorem dX8_verdict_86 : decode cX8_verdict 86 = .ok (.aload_n 1, 1) := by decide +kernel
theorem dX8_verdict_87 : decode cX8_verdict 87 = .ok (.getfield 312, 3) := by decide +kernel
theorem dX8_verdict_90 : decode cX8_verdict 90 = .ok (.aload_n 2, 1) := by decide +kernel
theorem dX8_verdict_91 : decode cX8_verdict 91 = .ok (.aload_n 3, 1) := by decide +kernel
theorem dX8_verdict_92 : decode cX8_verdict 92 = .ok (.aload 4, 2) := by decide +kernel
theorem dX8_verdict_94 : decode cX8_verdict 94 = .ok (.aload 5, 2) := by decide +kernel
theorem dX8_verdict_96 : decode cX8_verdict 96 = .ok (.invokevirtual 314, 3) := by decide +kernel
theorem dX8_verdict_99 : decode cX8_verdict 99 = .ok (.ifCond .eq 7, 3) := by decide +kernel
theorem dX8_verdict_102 : decode cX8_verdict 102 = .ok (.iconst 1, 1) := by decide +kernel
theorem dX8_verdict_103 : decode cX8_verdict 103 = .ok (.goto 4, 3) := by decide +kernel
theorem dX8_verdict_106 : decode cX8_verdict 106 = .ok (.iconst 0, 1) := by decide +kernel
theorem dX8_verdict_107 : decode cX8_verdict 107 = .ok (.ireturn, 1) := by decide +kernel
theorem dJ9_floorMod_7cf53_0 : decode cJ9_floorMod_7cf53 0 = .ok (.iload_n 0, 1) := by decide +kernel
theorem dJ9_floorMod_7cf53_1 : decode cJ9_floorMod_7cf53 1 = .ok (.iload_n 1, 1) := by decide +kernel
theorem dJ9_floorMod_7cf53_2 : decode cJ9_floorMod_7cf53 2 = .ok (.irem, 1) := by decide +kernel
theorem dJ9_floorMod_7cf53_3 : decode cJ9_floorMod_7cf53 3 = .ok (.istore_n 2, 1) := by decide +kernel
theorem dJ9_floorMod_7cf53_4 : decode cJ9_floorMod_7cf53 4 = .ok (.iload_n 0, 1) := by decide +kernel
theorem dJ9_floorMod_7cf53_5 : decode cJ9_floorMod_7cf53 5 = .ok (.iload_n 1, 1) := by decide +kernel
theorem dJ9_floorMod_7cf53_6 : decode cJ9_floorMod_7cf53 6 = .ok (.ixor, 1) := by decide +kernel
theorem dJ9_floorMod_7cf53_7 : decode cJ9_floorMod_7cf53 7 = .ok (.ifCond .ge 11, 3) := by decide +kernel
theorem dJ9_floorMod_7cf53_10 : decode cJ9_floorMod_7cf53 10 = .ok (.iload_n 2, 1) := by decide +kernel
theorem dJ9_floorMod_7cf53_11 : decode cJ9_floorMod_7cf53 11 = .ok (.ifCond .eq 7, 3) := by decide +kernel
theorem dJ9_floorMod_7cf53_14 : decode cJ9_floorMod_7cf53 14 = .ok (.iload_n 2, 1) := by decide +kernel
theorem dJ9_floorMod_7cf53_15 : decode cJ9_floorMod_7cf53 15 = .ok (.iload_n 1, 1) := by decide +kernel
theorem dJ9_floorMod_7cf53_16 : decode cJ9_floorMod_7cf53 16 = .ok (.iadd, 1) := by decide +kernel
theorem dJ9_floorMod_7cf53_17 : decode cJ9_floorMod_7cf53 17 = .ok (.ireturn, 1) := by decide +kernel
theorem dJ9_floorMod_7cf53_18 : decode cJ9_floorMod_7cf53 18 = .ok (.iload_n 2, 1) := by decide +kernel
theorem dJ9_floorMod_7cf53_19 : decode cJ9_floorMod_7cf53 19 = .ok (.ireturn, 1) := by decide +kernel
set_option maxRecDepth 20000 in
theorem ggJ0_length_8abf5_J0_coder_7d493 : GoodIn wsJ0_length_8abf5 wsJ0_coder_7d493 := goodIn_r _ [6, 7, 8] rfl (by decide +kernel)
set_option maxRecDepth 20000 in
theorem gJ0_length_8abf5_J0_coder_7d493 : GoodIn wsJ0_length_8abf5 (wsV RJ0 335 RJ0 yJ0_coder_7d493 wsJ0_coder_7d493) := goodIn_app (goodIn_of _ (by decide +kernel)) ggJ0_length_8abf5_J0_coder_7d493
theorem dJ0_length_8abf5_0 : decode cJ0_length_8abf5 0 = .ok (.aload_n 0, 1) := by decide +kernel
theorem dJ0_length_8abf5_1 : decode cJ0_length_8abf5 1 = .ok (.getfield 9, 3) := by decide +kernel
theorem dJ0_length_8abf5_4 : decode cJ0_length_8abf5 4 = .ok (.arraylength, 1) := by decide +kernel
theorem dJ0_length_8abf5_5 : decode cJ0_length_8abf5 5 = .ok (.aload_n 0, 1) := by decide +kernel
theorem dJ0_length_8abf5_6 : decode cJ0_length_8abf5 6 = .ok (.invokevirtual 335, 3) := by decide +kernel
theorem dJ0_length_8abf5_9 : decode cJ0_length_8abf5 9 = .ok (.ishr, 1) := by decide +kernel
theorem dJ0_length_8abf5_10 : decode cJ0_length_8abf5 10 = .ok (.ireturn, 1) := by decide +kernel
set_option maxRecDepth 20000 in
theorem ggJ0_charAt_5068e_J0_isLatin1_aae02 : GoodIn wsJ0_charAt_5068e wsJ0_isLatin1_aae02 := goodIn_r _ [6, 7, 8] rfl (by decide +kernel)
set_option maxRecDepth 20000 in
theorem gJ0_charAt_5068e_J0_isLatin1_aae02 : GoodIn wsJ0_charAt_5068e (wsV RJ0 492 RJ0 yJ0_isLatin1_aae02 wsJ0_isLatin1_aae02) := goodIn_app (goodIn_of _ (by decide +kernel)) ggJ0_charAt_5068e_J0_isLatin1_aae02
set_option maxRecDepth 20000 in
theorem ggJ0_charAt_5068e_J1_charAt_3b067 : GoodIn wsJ0_charAt_5068e wsJ1_charAt_3b067 := goodIn_r _ [12, 13, 14, 5, 15, 16, 17, 18, 19, 20] rfl (by decide +kernel)
set_option maxRecDepth 20000 in
theorem gJ0_charAt_5068e_J1_charAt_3b067 : GoodIn wsJ0_charAt_5068e (va_wsS RJ0 495 yJ1_charAt_3b067 wsJ1_charAt_3b067) := goodIn_app (goodIn_of _ (by decide +kernel)) ggJ0_charAt_5068e_J1_charAt_3b067
set_option maxRecDepth 20000 in
theorem ggJ0_charAt_5068e_J2_charAt_3b067 : GoodIn wsJ0_charAt_5068e wsJ2_charAt_3b067 := goodIn_r _ [24, 25, 26, 23, 27, 28, 29, 30, 31, 14, 5, 15, 16, 17, 18, 19, 20, 32, 33, 34, 35, 36, 37] rfl (by decide +kernel)
set_option maxRecDepth 20000 in
theorem gJ0_charAt_5068e_J2_charAt_3b067 : GoodIn wsJ0_charAt_5068e (va_wsS RJ0 498 yJ2_charAt_3b067 wsJ2_charAt_3b067) := goodIn_app (goodIn_of _ (by decide +kernel)) ggJ0_charAt_5068e_J2_charAt_3b067
theorem dJ0_charAt_5068e_0 : decode cJ0_charAt_5068e 0 = .ok (.aload_n 0, 1) := by decide +kernel
theorem dJ0_charAt_5068e_1 : decode cJ0_charAt_5068e 1 = .ok (.invokevirtual 492, 3) := by decide +kernel
theorem dJ0_charAt_5068e_4 : decode cJ0_charAt_5068e 4 = .ok (.ifCond .eq 12, 3) := by decide +kernel
theorem dJ0_charAt_5068e_7 : decode cJ0_charAt_5068e 7 = .ok (.aload_n 0, 1) := by decide +kernel
theorem dJ0_charAt_5068e_8 : decode cJ0_charAt_5068e 8 = .ok (.getfield 9, 3) := by decide +kernel
theorem dJ0_charAt_5068e_11 : decode cJ0_charAt_5068e 11 = .ok (.iload_n 1, 1) := by decide +kernel
theorem dJ0_charAt_5068e_12 : decode cJ0_charAt_5068e 12 = .ok (.invokestatic 495, 3) := by decide +kernel
theorem dJ0_charAt_5068e_15 : decode cJ0_charAt_5068e 15 = .ok (.ireturn, 1) := by decide +kernel
theorem dJ0_charAt_5068e_16 : decode cJ0_charAt_5068e 16 = .ok (.aload_n 0, 1) := by decide +kernel
theorem dJ0_charAt_5068e_17 : decode cJ0_charAt_5068e 17 = .ok (.getfield 9, 3) := by decide +kernel
theorem dJ0_charAt_5068e_20 : decode cJ0_charAt_5068e 20 = .ok (.iload_n 1, 1) := by decide +kernel
theorem dJ0_charAt_5068e_21 : decode cJ0_charAt_5068e 21 = .ok (.invokestatic 498, 3) := by decide +kernel
theorem dJ0_charAt_5068e_24 : decode cJ0_charAt_5068e 24 = .ok (.ireturn, 1) := by decide +kernel
theorem dJ0_coder_7d493_0 : decode cJ0_coder_7d493 0 = .ok (.getstatic 38, 3) := by decide +kernel
theorem dJ0_coder_7d493_3 : decode cJ0_coder_7d493 3 = .ok (.ifCond .eq 10, 3) := by decide +kernel
theorem dJ0_coder_7d493_6 : decode cJ0_coder_7d493 6 = .ok (.aload_n 0, 1) := by decide +kernel
theorem dJ0_coder_7d493_7 : decode cJ0_coder_7d493 7 = .ok (.getfield 15, 3) := by decide +kernel
theorem dJ0_coder_7d493_10 : decode cJ0_coder_7d493 10 = .ok (.goto 4, 3) := by decide +kernel
theorem dJ0_coder_7d493_13 : decode cJ0_coder_7d493 13 = .ok (.iconst 1, 1) := by decide +kernel
theorem dJ0_coder_7d493_14 : decode cJ0_coder_7d493 14 = .ok (.ireturn, 1) := by decide +kernel
theorem dJ0_isLatin1_aae02_0 : decode cJ0_isLatin1_aae02 0 = .ok (.getstatic 38, 3) := by decide +kernel
theorem dJ0_isLatin1_aae02_3 : decode cJ0_isLatin1_aae02 3 = .ok (.ifCond .eq 14, 3) := by decide +kernel
theorem dJ0_isLatin1_aae02_6 : decode cJ0_isLatin1_aae02 6 = .ok (.aload_n 0, 1) := by decide +kernel
theorem dJ0_isLatin1_aae02_7 : decode cJ0_isLatin1_aae02 7 = .ok (.getfield 15, 3) := by decide +kernel
theorem dJ0_isLatin1_aae02_10 : decode cJ0_isLatin1_aae02 10 = .ok (.ifCond .ne 7, 3) := by decide +kernel
theorem dJ0_isLatin1_aae02_13 : decode cJ0_isLatin1_aae02 13 = .ok (.iconst 1, 1) := by decide +kernel
theorem dJ0_isLatin1_aae02_14 : decode cJ0_isLatin1_aae02 14 = .ok (.goto 4, 3) := by decide +kernel
theorem dJ0_isLatin1_aae02_17 : decode cJ0_isLatin1_aae02 17 = .ok (.iconst 0, 1) := by decide +kernel
theorem dJ0_isLatin1_aae02_18 : decode cJ0_isLatin1_aae02 18 = .ok (.ireturn, 1) := by decide +kernel
set_option maxRecDepth 20000 in
theorem ggJ0_checkIndex_df160_J3_checkIndex_8e157 : GoodIn wsJ0_checkIndex_df160 wsJ3_checkIndex_8e157 := goodIn_r _ [5] rfl (by decide +kernel)
set_option maxRecDepth 20000 in
theorem gJ0_checkIndex_df160_J3_checkIndex_8e157 : GoodIn wsJ0_checkIndex_df160 (va_wsS RJ0 1059 yJ3_checkIndex_8e157 wsJ3_checkIndex_8e157) := goodIn_app (goodIn_of _ (by decide +kernel)) ggJ0_checkIndex_df160_J3_checkIndex_8e157
theorem dJ0_checkIndex_df160_0 : decode cJ0_checkIndex_df160 0 = .ok (.iload_n 0, 1) := by decide +kernel
theorem dJ0_checkIndex_df160_1 : decode cJ0_checkIndex_df160 1 = .ok (.iload_n 1, 1) := by decide +kernel
theorem dJ0_checkIndex_df160_2 : decode cJ0_checkIndex_df160 2 = .ok (.getstatic 1053, 3) := by decide +kernel
theorem dJ0_checkIndex_df160_5 : decode cJ0_checkIndex_df160 5 = .ok (.invokestatic 1059, 3) := by decide +kernel
theorem dJ0_checkIndex_df160_8 : decode cJ0_checkIndex_df160 8 = .ok (.pop, 1) := by decide +kernel
theorem dJ0_checkIndex_df160_9 : decode cJ0_checkIndex_df160 9 = .ok (.return_, 1) := by decide +kernel
set_option maxRecDepth 20000 in
theorem ggJ1_charAt_3b067_J0_checkIndex_df160 : GoodIn wsJ1_charAt_3b067 wsJ0_checkIndex_df160 := goodIn_r _ [4, 5, 6, 7, 8, 9] rfl (by decide +kernel)
set_option maxRecDepth 20000 in
theorem gJ1_charAt_3b067_J0_checkIndex_df160 : GoodIn wsJ1_charAt_3b067 (va_wsS RJ1 9 yJ0_checkIndex_df160 wsJ0_checkIndex_df160) := goodIn_app (goodIn_of _ (by decide +kernel)) ggJ1_charAt_3b067_J0_checkIndex_df160
theorem dJ1_charAt_3b067_0 : decode cJ1_charAt_3b067 0 = .ok (.iload_n 1, 1) := by decide +kernel
theorem dJ1_charAt_3b067_1 : decode cJ1_charAt_3b067 1 = .ok (.aload_n 0, 1) := by decide +kernel
theorem dJ1_charAt_3b067_2 : decode cJ1_charAt_3b067 2 = .ok (.arraylength, 1) := by decide +kernel
theorem dJ1_charAt_3b067_3 : decode cJ1_charAt_3b067 3 = .ok (.invokestatic 9, 3) := by decide +kernel
theorem dJ1_charAt_3b067_6 : decode cJ1_charAt_3b067 6 = .ok (.aload_n 0, 1) := by decide +kernel
theorem dJ1_charAt_3b067_7 : decode cJ1_charAt_3b067 7 = .ok (.iload_n 1, 1) := by decide +kernel
theorem dJ1_charAt_3b067_8 : decode cJ1_charAt_3b067 8 = .ok (.baload, 1) := by decide +kernel
theorem dJ1_charAt_3b067_9 : decode cJ1_charAt_3b067 9 = .ok (.sipush 255, 3) := by decide +kernel
theorem dJ1_charAt_3b067_12 : decode cJ1_charAt_3b067 12 = .ok (.iand, 1) := by decide +kernel
theorem dJ1_charAt_3b067_13 : decode cJ1_charAt_3b067 13 = .ok (.i2c, 1) := by decide +kernel
theorem dJ1_charAt_3b067_14 : decode cJ1_charAt_3b067 14 = .ok (.ireturn, 1) := by decide +kernel
set_option maxRecDepth 20000 in
theorem ggJ2_getChar_3b067_J2_length_9d52b : GoodIn wsJ2_getChar_3b067 wsJ2_length_9d52b := goodIn_r _ [7] rfl (by decide +kernel)
set_option maxRecDepth 20000 in
theorem gJ2_getChar_3b067_J2_length_9d52b : GoodIn wsJ2_getChar_3b067 (va_wsS RJ2 48 yJ2_length_9d52b wsJ2_length_9d52b) := goodIn_app (goodIn_of _ (by decide +kernel)) ggJ2_getChar_3b067_J2_length_9d52b
theorem dJ2_getChar_3b067_0 : decode cJ2_getChar_3b067 0 = .ok (.getstatic 44, 3) := by decide +kernel
theorem dJ2_getChar_3b067_3 : decode cJ2_getChar_3b067 3 = .ok (.ifCond .ne 25, 3) := by decide +kernel
theorem dJ2_getChar_3b067_6 : decode cJ2_getChar_3b067 6 = .ok (.iload_n 1, 1) := by decide +kernel
theorem dJ2_getChar_3b067_7 : decode cJ2_getChar_3b067 7 = .ok (.ifCond .lt 11, 3) := by decide +kernel
theorem dJ2_getChar_3b067_10 : decode cJ2_getChar_3b067 10 = .ok (.iload_n 1, 1) := by decide +kernel
theorem dJ2_getChar_3b067_11 : decode cJ2_getChar_3b067 11 = .ok (.aload_n 0, 1) := by decide +kernel
theorem dJ2_getChar_3b067_12 : decode cJ2_getChar_3b067 12 = .ok (.invokestatic 48, 3) := by decide +kernel
theorem dJ2_getChar_3b067_15 : decode cJ2_getChar_3b067 15 = .ok (.if_icmp .lt 13, 3) := by decide +kernel
theorem dJ2_getChar_3b067_18 : decode cJ2_getChar_3b067 18 = .ok (.new 52, 3) := by decide +kernel
theorem dJ2_getChar_3b067_21 : decode cJ2_getChar_3b067 21 = .ok (.dup, 1) := by decide +kernel
theorem dJ2_getChar_3b067_22 : decode cJ2_getChar_3b067 22 = .ok (.ldc 54, 2) := by decide +kernel
theorem dJ2_getChar_3b067_24 : decode cJ2_getChar_3b067 24 = .ok (.invokespecial 56, 3) := by decide +kernel
theorem dJ2_getChar_3b067_27 : decode cJ2_getChar_3b067 27 = .ok (.athrow, 1) := by decide +kernel
theorem dJ2_getChar_3b067_28 : decode cJ2_getChar_3b067 28 = .ok (.iload_n 1, 1) := by decide +kernel
theorem dJ2_getChar_3b067_29 : decode cJ2_getChar_3b067 29 = .ok (.iconst 1, 1) := by decide +kernel
theorem dJ2_getChar_3b067_30 : decode cJ2_getChar_3b067 30 = .ok (.ishl, 1) := by decide +kernel
theorem dJ2_getChar_3b067_31 : decode cJ2_getChar_3b067 31 = .ok (.istore_n 1, 1) := by decide +kernel
theorem dJ2_getChar_3b067_32 : decode cJ2_getChar_3b067 32 = .ok (.aload_n 0, 1) := by decide +kernel
theorem dJ2_getChar_3b067_33 : decode cJ2_getChar_3b067 33 = .ok (.iload_n 1, 1) := by decide +kernel
theorem dJ2_getChar_3b067_34 : decode cJ2_getChar_3b067 34 = .ok (.iinc 1 1, 3) := by decide +kernel
theorem dJ2_getChar_3b067_37 : decode cJ2_getChar_3b067 37 = .ok (.baload, 1) := by decide +kernel
theorem dJ2_getChar_3b067_38 : decode cJ2_getChar_3b067 38 = .ok (.sipush 255, 3) := by decide +kernel
theorem dJ2_getChar_3b067_41 : decode cJ2_getChar_3b067 41 = .ok (.iand, 1) := by decide +kernel
theorem dJ2_getChar_3b067_42 : decode cJ2_getChar_3b067 42 = .ok (.getstatic 59, 3) := by decide +kernel
theorem dJ2_getChar_3b067_45 : decode cJ2_getChar_3b067 45 = .ok (.ishl, 1) := by decide +kernel
theorem dJ2_getChar_3b067_46 : decode cJ2_getChar_3b067 46 = .ok (.aload_n 0, 1) := by decide +kernel
theorem dJ2_getChar_3b067_47 : decode cJ2_getChar_3b067 47 = .ok (.iload_n 1, 1) := by decide +kernel
theorem dJ2_getChar_3b067_48 : decode cJ2_getChar_3b067 48 = .ok (.baload, 1) := by decide +kernel
theorem dJ2_getChar_3b067_49 : decode cJ2_getChar_3b067 49 = .ok (.sipush 255, 3) := by decide +kernel
theorem dJ2_getChar_3b067_52 : decode cJ2_getChar_3b067 52 = .ok (.iand, 1) := by decide +kernel
theorem dJ2_getChar_3b067_53 : decode cJ2_getChar_3b067 53 = .ok (.getstatic 63, 3) := by decide +kernel
theorem dJ2_getChar_3b067_56 : decode cJ2_getChar_3b067 56 = .ok (.ishl, 1) := by decide +kernel
theorem dJ2_getChar_3b067_57 : decode cJ2_getChar_3b067 57 = .ok (.ior, 1) := by decide +kernel
theorem dJ2_getChar_3b067_58 : decode cJ2_getChar_3b067 58 = .ok (.i2c, 1) := by decide +kernel
theorem dJ2_getChar_3b067_59 : decode cJ2_getChar_3b067 59 = .ok (.ireturn, 1) := by decide +kernel
theorem dJ2_length_9d52b_0 : decode cJ2_length_9d52b 0 = .ok (.aload_n 0, 1) := by decide +kernel
theorem dJ2_length_9d52b_1 : decode cJ2_length_9d52b 1 = .ok (.arraylength, 1) := by decide +kernel
theorem dJ2_length_9d52b_2 : decode cJ2_length_9d52b 2 = .ok (.iconst 1, 1) := by decide +kernel
theorem dJ2_length_9d52b_3 : decode cJ2_length_9d52b 3 = .ok (.ishr, 1) := by decide +kernel
theorem dJ2_length_9d52b_4 : decode cJ2_length_9d52b 4 = .ok (.ireturn, 1) := by decide +kernel
set_option maxRecDepth 20000 in
theorem ggJ2_charAt_3b067_J2_checkIndex_2214a : GoodIn wsJ2_charAt_3b067 wsJ2_checkIndex_2214a := goodIn_r _ [4, 5, 6, 3, 7, 8, 9, 10, 11, 12, 13, 14, 15, 16] rfl (by decide +kernel)
set_option maxRecDepth 20000 in
theorem gJ2_charAt_3b067_J2_checkIndex_2214a : GoodIn wsJ2_charAt_3b067 (va_wsS RJ2 67 yJ2_checkIndex_2214a wsJ2_checkIndex_2214a) := goodIn_app (goodIn_of _ (by decide +kernel)) ggJ2_charAt_3b067_J2_checkIndex_2214a
set_option maxRecDepth 20000 in
theorem ggJ2_charAt_3b067_J2_getChar_3b067 : GoodIn wsJ2_charAt_3b067 wsJ2_getChar_3b067 := goodIn_r _ [19, 20, 21, 22, 5, 6, 3, 7] rfl (by decide +kernel)
set_option maxRecDepth 20000 in
theorem gJ2_charAt_3b067_J2_getChar_3b067 : GoodIn wsJ2_charAt_3b067 (va_wsS RJ2 71 yJ2_getChar_3b067 wsJ2_getChar_3b067) := goodIn_app (goodIn_of _ (by decide +kernel)) ggJ2_charAt_3b067_J2_getChar_3b067
theorem dJ2_charAt_3b067_0 : decode cJ2_charAt_3b067 0 = .ok (.iload_n 1, 1) := by decide +kernel
theorem dJ2_charAt_3b067_1 : decode cJ2_charAt_3b067 1 = .ok (.aload_n 0, 1) := by decide +kernel
theorem dJ2_charAt_3b067_2 : decode cJ2_charAt_3b067 2 = .ok (.invokestatic 67, 3) := by decide +kernel
theorem dJ2_charAt_3b067_5 : decode cJ2_charAt_3b067 5 = .ok (.aload_n 0, 1) := by decide +kernel
theorem dJ2_charAt_3b067_6 : decode cJ2_charAt_3b067 6 = .ok (.iload_n 1, 1) := by decide +kernel
theorem dJ2_charAt_3b067_7 : decode cJ2_charAt_3b067 7 = .ok (.invokestatic 71, 3) := by decide +kernel
theorem dJ2_charAt_3b067_10 : decode cJ2_charAt_3b067 10 = .ok (.ireturn, 1) := by decide +kernel
set_option maxRecDepth 20000 in
theorem ggJ2_checkIndex_2214a_J2_length_9d52b : GoodIn wsJ2_checkIndex_2214a wsJ2_length_9d52b := goodIn_r _ [4] rfl (by decide +kernel)
set_option maxRecDepth 20000 in
theorem gJ2_checkIndex_2214a_J2_length_9d52b : GoodIn wsJ2_checkIndex_2214a (va_wsS RJ2 48 yJ2_length_9d52b wsJ2_length_9d52b) := goodIn_app (goodIn_of _ (by decide +kernel)) ggJ2_checkIndex_2214a_J2_length_9d52b
set_option maxRecDepth 20000 in
theorem ggJ2_checkIndex_2214a_J0_checkIndex_df160 : GoodIn wsJ2_checkIndex_2214a wsJ0_checkIndex_df160 := goodIn_r _ [8, 9, 10, 11, 12, 13] rfl (by decide +kernel)
set_option maxRecDepth 20000 in
theorem gJ2_checkIndex_2214a_J0_checkIndex_df160 : GoodIn wsJ2_checkIndex_2214a (va_wsS RJ2 414 yJ0_checkIndex_df160 wsJ0_checkIndex_df160) := goodIn_app (goodIn_of _ (by decide +kernel)) ggJ2_checkIndex_2214a_J0_checkIndex_df160
theorem dJ2_checkIndex_2214a_0 : decode cJ2_checkIndex_2214a 0 = .ok (.iload_n 0, 1) := by decide +kernel
theorem dJ2_checkIndex_2214a_1 : decode cJ2_checkIndex_2214a 1 = .ok (.aload_n 1, 1) := by decide +kernel
theorem dJ2_checkIndex_2214a_2 : decode cJ2_checkIndex_2214a 2 = .ok (.invokestatic 48, 3) := by decide +kernel
theorem dJ2_checkIndex_2214a_5 : decode cJ2_checkIndex_2214a 5 = .ok (.invokestatic 414, 3) := by decide +kernel
theorem dJ2_checkIndex_2214a_8 : decode cJ2_checkIndex_2214a 8 = .ok (.return_, 1) := by decide +kernel
theorem dJ3_checkIndex_8e157_0 : decode cJ3_checkIndex_8e157 0 = .ok (.iload_n 0, 1) := by decide +kernel
theorem dJ3_checkIndex_8e157_1 : decode cJ3_checkIndex_8e157 1 = .ok (.ifCond .lt 8, 3) := by decide +kernel
theorem dJ3_checkIndex_8e157_4 : decode cJ3_checkIndex_8e157 4 = .ok (.iload_n 0, 1) := by decide +kernel
theorem dJ3_checkIndex_8e157_5 : decode cJ3_checkIndex_8e157 5 = .ok (.iload_n 1, 1) := by decide +kernel
theorem dJ3_checkIndex_8e157_6 : decode cJ3_checkIndex_8e157 6 = .ok (.if_icmp .lt 10, 3) := by decide +kernel
theorem dJ3_checkIndex_8e157_9 : decode cJ3_checkIndex_8e157 9 = .ok (.aload_n 2, 1) := by decide +kernel
theorem dJ3_checkIndex_8e157_10 : decode cJ3_checkIndex_8e157 10 = .ok (.iload_n 0, 1) := by decide +kernel
theorem dJ3_checkIndex_8e157_11 : decode cJ3_checkIndex_8e157 11 = .ok (.iload_n 1, 1) := by decide +kernel
theorem dJ3_checkIndex_8e157_12 : decode cJ3_checkIndex_8e157 12 = .ok (.invokestatic 95, 3) := by decide +kernel
theorem dJ3_checkIndex_8e157_15 : decode cJ3_checkIndex_8e157 15 = .ok (.athrow, 1) := by decide +kernel
theorem dJ3_checkIndex_8e157_16 : decode cJ3_checkIndex_8e157 16 = .ok (.iload_n 0, 1) := by decide +kernel
theorem dJ3_checkIndex_8e157_17 : decode cJ3_checkIndex_8e157 17 = .ok (.ireturn, 1) := by decide +kernel
theorem dL_below_0 : decode cL_below 0 = .ok (.iload_n 0, 1) := by decide +kernel
theorem dL_below_1 : decode cL_below 1 = .ok (.ldc 7, 2) := by decide +kernel
theorem dL_below_3 : decode cL_below 3 = .ok (.iand, 1) := by decide +kernel
theorem dL_below_4 : decode cL_below 4 = .ok (.iload_n 1, 1) := by decide +kernel
theorem dL_below_5 : decode cL_below 5 = .ok (.irem, 1) := by decide +kernel
theorem dL_below_6 : decode cL_below 6 = .ok (.ireturn, 1) := by decide +kernel
theorem dL_cell_0 : decode cL_cell 0 = .ok (.iload_n 1, 1) := by decide +kernel
theorem dL_cell_1 : decode cL_cell 1 = .ok (.aload_n 0, 1) := by decide +kernel
theorem dL_cell_2 : decode cL_cell 2 = .ok (.arraylength, 1) := by decide +kernel
theorem dL_cell_3 : decode cL_cell 3 = .ok (.if_icmp .ge 9, 3) := by decide +kernel
theorem dL_cell_6 : decode cL_cell 6 = .ok (.aload_n 0, 1) := by decide +kernel
theorem dL_cell_7 : decode cL_cell 7 = .ok (.iload_n 1, 1) := by decide +kernel
theorem dL_cell_8 : decode cL_cell 8 = .ok (.iaload, 1) := by decide +kernel
theorem dL_cell_9 : decode cL_cell 9 = .ok (.goto 9, 3) := by decide +kernel
theorem dL_cell_12 : decode cL_cell 12 = .ok (.ldc 8, 2) := by decide +kernel
theorem dL_cell_14 : decode cL_cell 14 = .ok (.iload_n 1, 1) := by decide +kernel
theorem dL_cell_15 : decode cL_cell 15 = .ok (.iconst 3, 1) := by decide +kernel
theorem dL_cell_16 : decode cL_cell 16 = .ok (.iadd, 1) := by decide +kernel
theorem dL_cell_17 : decode cL_cell 17 = .ok (.imul, 1) := by decide +kernel
theorem dL_cell_18 : decode cL_cell 18 = .ok (.ireturn, 1) := by decide +kernel
theorem dL_square_0 : decode cL_square 0 = .ok (.iload_n 1, 1) := by decide +kernel
theorem dL_square_1 : decode cL_square 1 = .ok (.iload_n 3, 1) := by decide +kernel
theorem dL_square_2 : decode cL_square 2 = .ok (.isub, 1) := by decide +kernel
theorem dL_square_3 : decode cL_square 3 = .ok (.iload_n 1, 1) := by decide +kernel
theorem dL_square_4 : decode cL_square 4 = .ok (.iload_n 3, 1) := by decide +kernel
theorem dL_square_5 : decode cL_square 5 = .ok (.isub, 1) := by decide +kernel
theorem dL_square_6 : decode cL_square 6 = .ok (.imul, 1) := by decide +kernel
theorem dL_square_7 : decode cL_square 7 = .ok (.iload_n 2, 1) := by decide +kernel
theorem dL_square_8 : decode cL_square 8 = .ok (.iload 4, 2) := by decide +kernel
theorem dL_square_10 : decode cL_square 10 = .ok (.isub, 1) := by decide +kernel
theorem dL_square_11 : decode cL_square 11 = .ok (.iload_n 2, 1) := by decide +kernel
theorem dL_square_12 : decode cL_square 12 = .ok (.iload 4, 2) := by decide +kernel
theorem dL_square_14 : decode cL_square 14 = .ok (.isub, 1) := by decide +kernel
theorem dL_square_15 : decode cL_square 15 = .ok (.imul, 1) := by decide +kernel
theorem dL_square_16 : decode cL_square 16 = .ok (.iadd, 1) := by decide +kernel
theorem dL_square_17 : decode cL_square 17 = .ok (.iload_n 0, 1) := by decide +kernel
theorem dL_square_18 : decode cL_square 18 = .ok (.irem, 1) := by decide +kernel
theorem dL_square_19 : decode cL_square 19 = .ok (.ireturn, 1) := by decide +kernel
set_option maxRecDepth 20000 in
theorem ggL_has_X8_number : GoodIn wsL_has wsX8_number := goodIn_ca (goodIn_ca (goodIn_r _ [5, 6, 7, 8, 9, 10, 11, 12, 13, 14, 15, 16, 17, 18, 19, 20, 21, 22, 23, 24, 25, 26, 49, 50, 51, 52, 53, 54, 55, 56, 57, 58, 59, 60, 61, 62, 63, 64, 65, 66, 67, 68, 69, 70] rfl (by decide +kernel)) (goodIn_sub (fun _ h => List.mem_cons_of_mem _ (List.mem_append_left _ (List.mem_append_right _ h))) (by decide +kernel))) (goodIn_sub (fun _ h => List.mem_cons_of_mem _ (List.mem_append_right _ h)) (by decide +kernel))
set_option maxRecDepth 20000 in
theorem gL_has_X8_number : GoodIn wsL_has (wsV RL 9 RX8 yX8_number wsX8_number) := goodIn_app (goodIn_of _ (by decide +kernel)) ggL_has_X8_number
set_option maxRecDepth 20000 in
theorem ggL_has_X8_object : GoodIn wsL_has wsX8_object := goodIn_ca (goodIn_r _ [30, 6, 7, 10, 15, 16, 17, 18, 19, 20, 21, 22, 23, 24, 25, 26, 31, 32, 33, 34, 35, 36, 37, 38, 39, 40, 41, 42, 43, 44, 49, 50, 51, 52, 53, 54, 68, 69, 70, 55, 56, 57, 58, 59, 60, 61, 62, 63, 64, 65, 66, 67] rfl (by decide +kernel)) (goodIn_sub (fun _ h => List.mem_cons_of_mem _ (List.mem_append_left _ (List.mem_append_right _ h))) (by decide +kernel))
set_option maxRecDepth 20000 in
theorem gL_has_X8_object : GoodIn wsL_has (wsV RL 15 RX8 yX8_object wsX8_object) := goodIn_app (goodIn_of _ (by decide +kernel)) ggL_has_X8_object
set_option maxRecDepth 20000 in
theorem ggL_has_L_square : GoodIn wsL_has wsL_square := goodIn_r _ [48] rfl (by decide +kernel)
set_option maxRecDepth 20000 in
theorem gL_has_L_square : GoodIn wsL_has (va_wsS RL 18 yL_square wsL_square) := goodIn_app (goodIn_of _ (by decide +kernel)) ggL_has_L_square
theorem dL_has_0 : decode cL_has 0 = .ok (.aload_n 0, 1) := by decide +kernel
theorem dL_has_1 : decode cL_has 1 = .ok (.iload_n 2, 1) := by decide +kernel
theorem dL_has_2 : decode cL_has 2 = .ok (.iconst 0, 1) := by decide +kernel
theorem dL_has_3 : decode cL_has 3 = .ok (.invokevirtual 9, 3) := by decide +kernel
theorem dL_has_6 : decode cL_has 6 = .ok (.istore 5, 2) := by decide +kernel
theorem dL_has_8 : decode cL_has 8 = .ok (.aload_n 0, 1) := by decide +kernel
theorem dL_has_9 : decode cL_has 9 = .ok (.iload_n 2, 1) := by decide +kernel
theorem dL_has_10 : decode cL_has 10 = .ok (.iconst 1, 1) := by decide +kernel
theorem dL_has_11 : decode cL_has 11 = .ok (.invokevirtual 9, 3) := by decide +kernel
theorem dL_has_14 : decode cL_has 14 = .ok (.istore 6, 2) := by decide +kernel
theorem dL_has_16 : decode cL_has 16 = .ok (.aload_n 0, 1) := by decide +kernel
theorem dL_has_17 : decode cL_has 17 = .ok (.iload_n 2, 1) := by decide +kernel
theorem dL_has_18 : decode cL_has 18 = .ok (.iconst 2, 1) := by decide +kernel
theorem dL_has_19 : decode cL_has 19 = .ok (.invokevirtual 9, 3) := by decide +kernel
theorem dL_has_22 : decode cL_has 22 = .ok (.istore 7, 2) := by decide +kernel
theorem dL_has_24 : decode cL_has 24 = .ok (.aload_n 0, 1) := by decide +kernel
theorem dL_has_25 : decode cL_has 25 = .ok (.iload_n 2, 1) := by decide +kernel
theorem dL_has_26 : decode cL_has 26 = .ok (.iconst 0, 1) := by decide +kernel
theorem dL_has_27 : decode cL_has 27 = .ok (.invokevirtual 15, 3) := by decide +kernel
theorem dL_has_30 : decode cL_has 30 = .ok (.istore 8, 2) := by decide +kernel
theorem dL_has_32 : decode cL_has 32 = .ok (.iload 8, 2) := by decide +kernel
theorem dL_has_34 : decode cL_has 34 = .ok (.ifCond .ne 24, 3) := by decide +kernel
theorem dL_has_37 : decode cL_has 37 = .ok (.iload 5, 2) := by decide +kernel
theorem dL_has_39 : decode cL_has 39 = .ok (.iload_n 3, 1) := by decide +kernel
theorem dL_has_40 : decode cL_has 40 = .ok (.if_icmp .ne 14, 3) := by decide +kernel
theorem dL_has_43 : decode cL_has 43 = .ok (.iload 6, 2) := by decide +kernel
theorem dL_has_45 : decode cL_has 45 = .ok (.iload 4, 2) := by decide +kernel
theorem dL_has_47 : decode cL_has 47 = .ok (.if_icmp .ne 7, 3) := by decide +kernel
theorem dL_has_50 : decode cL_has 50 = .ok (.iconst 1, 1) := by decide +kernel
theorem dL_has_51 : decode cL_has 51 = .ok (.goto 60, 3) := by decide +kernel
theorem dL_has_54 : decode cL_has 54 = .ok (.iconst 0, 1) := by decide +kernel
theorem dL_has_55 : decode cL_has 55 = .ok (.goto 56, 3) := by decide +kernel
theorem dL_has_58 : decode cL_has 58 = .ok (.iload 8, 2) := by decide +kernel
theorem dL_has_60 : decode cL_has 60 = .ok (.iconst 1, 1) := by decide +kernel
theorem dL_has_61 : decode cL_has 61 = .ok (.if_icmp .ne 29, 3) := by decide +kernel
theorem dL_has_64 : decode cL_has 64 = .ok (.iload 5, 2) := by decide +kernel
theorem dL_has_66 : decode cL_has 66 = .ok (.iload_n 3, 1) := by decide +kernel
theorem dL_has_67 : decode cL_has 67 = .ok (.imul, 1) := by decide +kernel
theorem dL_has_68 : decode cL_has 68 = .ok (.iload 6, 2) := by decide +kernel
theorem dL_has_70 : decode cL_has 70 = .ok (.iload 4, 2) := by decide +kernel
theorem dL_has_72 : decode cL_has 72 = .ok (.imul, 1) := by decide +kernel
theorem dL_has_73 : decode cL_has 73 = .ok (.iadd, 1) := by decide +kernel
theorem dL_has_74 : decode cL_has 74 = .ok (.iload 7, 2) := by decide +kernel
theorem dL_has_76 : decode cL_has 76 = .ok (.iadd, 1) := by decide +kernel
theorem dL_has_77 : decode cL_has 77 = .ok (.iload_n 1, 1) := by decide +kernel
theorem dL_has_78 : decode cL_has 78 = .ok (.irem, 1) := by decide +kernel
theorem dL_has_79 : decode cL_has 79 = .ok (.ifCond .ne 7, 3) := by decide +kernel
theorem dL_has_82 : decode cL_has 82 = .ok (.iconst 1, 1) := by decide +kernel
theorem dL_has_83 : decode cL_has 83 = .ok (.goto 28, 3) := by decide +kernel
theorem dL_has_86 : decode cL_has 86 = .ok (.iconst 0, 1) := by decide +kernel
theorem dL_has_87 : decode cL_has 87 = .ok (.goto 24, 3) := by decide +kernel
theorem dL_has_90 : decode cL_has 90 = .ok (.iload_n 1, 1) := by decide +kernel
