theorem dL_has_91 : decode cL_has 91 = .ok (.iload_n 3, 1) := by decide +kernel
theorem dL_has_92 : decode cL_has 92 = .ok (.iload 4, 2) := by decide +kernel
theorem dL_has_94 : decode cL_has 94 = .ok (.iload 5, 2) := by decide +kernel
theorem dL_has_96 : decode cL_has 96 = .ok (.iload 6, 2) := by decide +kernel
theorem dL_has_98 : decode cL_has 98 = .ok (.invokestatic 18, 3) := by decide +kernel
theorem dL_has_101 : decode cL_has 101 = .ok (.iload 7, 2) := by decide +kernel
theorem dL_has_103 : decode cL_has 103 = .ok (.if_icmp .ne 7, 3) := by decide +kernel
theorem dL_has_106 : decode cL_has 106 = .ok (.iconst 1, 1) := by decide +kernel
theorem dL_has_107 : decode cL_has 107 = .ok (.goto 4, 3) := by decide +kernel
theorem dL_has_110 : decode cL_has 110 = .ok (.iconst 0, 1) := by decide +kernel
theorem dL_has_111 : decode cL_has 111 = .ok (.ireturn, 1) := by decide +kernel
set_option maxRecDepth 20000 in
theorem ggL_build_L_cell : GoodIn wsL_build wsL_cell := goodIn_r _ [6, 7] rfl (by decide +kernel)
set_option maxRecDepth 20000 in
theorem gL_build_L_cell : GoodIn wsL_build (va_wsS RL 42 yL_cell wsL_cell) := goodIn_app (goodIn_of _ (by decide +kernel)) ggL_build_L_cell
set_option maxRecDepth 20000 in
theorem ggL_build_L_below : GoodIn wsL_build wsL_below := goodIn_r _ [10, 11] rfl (by decide +kernel)
set_option maxRecDepth 20000 in
theorem gL_build_L_below : GoodIn wsL_build (va_wsS RL 46 yL_below wsL_below) := goodIn_app (goodIn_of _ (by decide +kernel)) ggL_build_L_below
set_option maxRecDepth 20000 in
theorem ggL_build_X8_point : GoodIn wsL_build wsX8_point := goodIn_ca (goodIn_ca (goodIn_ca (goodIn_r _ [16, 17, 18, 19, 20, 21, 22, 23, 24, 25, 26, 27, 28, 29, 30, 31, 32, 33, 34, 35, 36, 37, 38, 39, 40, 41, 42, 43, 44, 45, 46, 47, 48, 49, 50, 51, 52, 53, 54, 55, 56, 57, 58, 59, 60, 61, 62, 63, 64, 65, 66, 67, 68, 69, 70, 71, 15, 72, 73, 74, 75, 76, 77, 78, 79, 80, 81, 82, 83, 84, 85, 86, 87, 88, 89, 90, 91, 92, 93, 94, 95, 96, 97, 98, 99, 100, 101, 102, 103, 104, 105, 106, 107, 108, 109, 110, 111, 112, 113, 114, 115, 116, 117, 118, 119, 120, 121, 122, 123, 124, 125, 126, 127, 128, 129, 130, 131, 132, 133, 134, 135, 136, 137, 138, 139, 140, 141, 142, 143, 144, 145, 146, 147, 148, 149, 150, 151, 152, 153, 154, 155, 156, 157, 158, 159, 160, 161, 162, 163, 164, 165, 166, 167, 168, 169, 170, 171, 172, 173, 174, 175, 176, 177, 178, 179, 180, 181, 263, 264, 265, 266, 267, 268, 269, 270, 271, 272, 273, 274, 275, 276, 277, 278, 279, 280, 281, 282, 283, 284, 285, 286, 287, 288, 289] rfl (by decide +kernel)) (goodIn_sub (fun _ h => List.mem_cons_of_mem _ (List.mem_append_left _ (List.mem_append_left _ (List.mem_append_right _ h)))) (by decide +kernel))) (goodIn_sub (fun _ h => List.mem_cons_of_mem _ (List.mem_append_left _ (List.mem_append_right _ h))) (by decide +kernel))) (goodIn_sub (fun _ h => List.mem_cons_of_mem _ (List.mem_append_right _ h)) (by decide +kernel))
set_option maxRecDepth 20000 in
theorem gL_build_X8_point : GoodIn wsL_build (wsV RL 49 RX8 yX8_point wsX8_point) := goodIn_app (goodIn_of _ (by decide +kernel)) ggL_build_X8_point
set_option maxRecDepth 20000 in
theorem ggL_build_X8_object : GoodIn wsL_build wsX8_object := goodIn_ca (goodIn_r _ [185, 17, 18, 23, 27, 28, 29, 30, 31, 32, 33, 34, 35, 36, 37, 38, 186, 187, 188, 42, 189, 44, 60, 61, 62, 190, 191, 40, 41, 43, 263, 264, 265, 266, 267, 268, 269, 270, 271, 272, 273, 274, 275, 276, 277, 278, 279, 280, 281, 282, 283, 284] rfl (by decide +kernel)) (goodIn_sub (fun _ h => List.mem_cons_of_mem _ (List.mem_append_left _ (List.mem_append_left _ (List.mem_append_right _ h)))) (by decide +kernel))
set_option maxRecDepth 20000 in
theorem gL_build_X8_object : GoodIn wsL_build (wsV RL 15 RX8 yX8_object wsX8_object) := goodIn_app (goodIn_of _ (by decide +kernel)) ggL_build_X8_object
set_option maxRecDepth 20000 in
theorem ggL_build_L_pick : GoodIn wsL_build wsL_pick := goodIn_r _ [194, 8, 9, 5, 10, 11] rfl (by decide +kernel)
set_option maxRecDepth 20000 in
theorem gL_build_L_pick : GoodIn wsL_build (va_wsS RL 53 yL_pick wsL_pick) := goodIn_app (goodIn_of _ (by decide +kernel)) ggL_build_L_pick
set_option maxRecDepth 20000 in
theorem ggL_build_J0_length_8abf5 : GoodIn wsL_build wsJ0_length_8abf5 := goodIn_r _ [199, 200, 201, 202, 203, 198, 204, 205, 206] rfl (by decide +kernel)
set_option maxRecDepth 20000 in
theorem gL_build_J0_length_8abf5 : GoodIn wsL_build (wsV RL 57 RJ0 yJ0_length_8abf5 wsJ0_length_8abf5) := goodIn_app (goodIn_of _ (by decide +kernel)) ggL_build_J0_length_8abf5
set_option maxRecDepth 20000 in
theorem ggL_build_J0_charAt_5068e : GoodIn wsL_build wsJ0_charAt_5068e := goodIn_r _ [210, 200, 211, 212, 213, 198, 214, 205, 206, 215, 216, 217, 218, 219, 220, 221, 222, 223, 224, 225, 226, 227, 228, 229, 230, 231, 232, 233, 234, 235, 236, 237, 238, 239, 240, 241, 242, 243] rfl (by decide +kernel)
set_option maxRecDepth 20000 in
theorem gL_build_J0_charAt_5068e : GoodIn wsL_build (wsV RL 61 RJ0 yJ0_charAt_5068e wsJ0_charAt_5068e) := goodIn_app (goodIn_of _ (by decide +kernel)) ggL_build_J0_charAt_5068e
set_option maxRecDepth 20000 in
theorem ggL_build_X8_make : GoodIn wsL_build wsX8_make := goodIn_ca (goodIn_ca (goodIn_ca (goodIn_r _ [247, 19, 20, 17, 18, 21, 22, 248, 23, 25, 26, 249, 250, 15, 251, 252, 253, 254, 255, 256, 257, 258, 27, 28, 29, 30, 31, 32, 259, 260, 261, 262, 33, 34, 35, 36, 37, 38, 39, 40, 41, 42, 43, 44, 51, 52, 53, 54, 55, 56, 57, 58, 59, 60, 61, 62, 69, 70, 71, 72, 73, 74, 75, 76, 77, 78, 79, 80, 81, 82, 83, 84, 85, 86, 87, 88, 89, 90, 91, 92, 93, 94, 95, 96, 48, 97, 50, 98, 99, 100, 101, 102, 103, 104, 105, 106, 107, 108, 109, 110, 111, 112, 113, 114, 115, 116, 117, 118, 119, 120, 121, 122, 123, 124, 125, 126, 127, 128, 129, 130, 131, 132, 133, 134, 135, 136, 137, 138, 139, 140, 141, 142, 143, 144, 145, 146, 147, 148, 149, 150, 151, 152, 153, 154, 155, 156, 157, 158, 159, 160, 161, 162, 163, 164, 165, 166, 167, 168, 169, 170, 171, 172, 173, 174, 175, 176, 177, 178, 179, 180, 181, 263, 264, 265, 266, 267, 268, 269, 270, 271, 272, 273, 274, 275, 276, 277, 278, 279, 280, 281, 282, 283, 284, 288, 289, 285, 286, 287] rfl (by decide +kernel)) (goodIn_sub (fun _ h => List.mem_cons_of_mem _ (List.mem_append_left _ (List.mem_append_right _ h))) (by decide +kernel))) (goodIn_sub (fun _ h => List.mem_cons_of_mem _ (List.mem_append_left _ (List.mem_append_left _ (List.mem_append_right _ h)))) (by decide +kernel))) (goodIn_sub (fun _ h => List.mem_cons_of_mem _ (List.mem_append_right _ h)) (by decide +kernel))
set_option maxRecDepth 20000 in
theorem gL_build_X8_make : GoodIn wsL_build (wsV RL 65 RX8 yX8_make wsX8_make) := goodIn_app (goodIn_of _ (by decide +kernel)) ggL_build_X8_make
theorem dL_build_0 : decode cL_build 0 = .ok (.bipush 14, 2) := by decide +kernel
theorem dL_build_2 : decode cL_build 2 = .ok (.newarray .int, 2) := by decide +kernel
theorem dL_build_4 : decode cL_build 4 = .ok (.dup, 1) := by decide +kernel
theorem dL_build_5 : decode cL_build 5 = .ok (.iconst 0, 1) := by decide +kernel
theorem dL_build_6 : decode cL_build 6 = .ok (.iconst 2, 1) := by decide +kernel
theorem dL_build_7 : decode cL_build 7 = .ok (.iastore, 1) := by decide +kernel
theorem dL_build_8 : decode cL_build 8 = .ok (.dup, 1) := by decide +kernel
theorem dL_build_9 : decode cL_build 9 = .ok (.iconst 1, 1) := by decide +kernel
theorem dL_build_10 : decode cL_build 10 = .ok (.iconst 3, 1) := by decide +kernel
theorem dL_build_11 : decode cL_build 11 = .ok (.iastore, 1) := by decide +kernel
theorem dL_build_12 : decode cL_build 12 = .ok (.dup, 1) := by decide +kernel
theorem dL_build_13 : decode cL_build 13 = .ok (.iconst 2, 1) := by decide +kernel
theorem dL_build_14 : decode cL_build 14 = .ok (.iconst 4, 1) := by decide +kernel
theorem dL_build_15 : decode cL_build 15 = .ok (.iastore, 1) := by decide +kernel
theorem dL_build_16 : decode cL_build 16 = .ok (.dup, 1) := by decide +kernel
theorem dL_build_17 : decode cL_build 17 = .ok (.iconst 3, 1) := by decide +kernel
theorem dL_build_18 : decode cL_build 18 = .ok (.iconst 5, 1) := by decide +kernel
theorem dL_build_19 : decode cL_build 19 = .ok (.iastore, 1) := by decide +kernel
theorem dL_build_20 : decode cL_build 20 = .ok (.dup, 1) := by decide +kernel
theorem dL_build_21 : decode cL_build 21 = .ok (.iconst 4, 1) := by decide +kernel
theorem dL_build_22 : decode cL_build 22 = .ok (.bipush 6, 2) := by decide +kernel
theorem dL_build_24 : decode cL_build 24 = .ok (.iastore, 1) := by decide +kernel
theorem dL_build_25 : decode cL_build 25 = .ok (.dup, 1) := by decide +kernel
theorem dL_build_26 : decode cL_build 26 = .ok (.iconst 5, 1) := by decide +kernel
theorem dL_build_27 : decode cL_build 27 = .ok (.bipush 7, 2) := by decide +kernel
theorem dL_build_29 : decode cL_build 29 = .ok (.iastore, 1) := by decide +kernel
theorem dL_build_30 : decode cL_build 30 = .ok (.dup, 1) := by decide +kernel
theorem dL_build_31 : decode cL_build 31 = .ok (.bipush 6, 2) := by decide +kernel
theorem dL_build_33 : decode cL_build 33 = .ok (.bipush 8, 2) := by decide +kernel
theorem dL_build_35 : decode cL_build 35 = .ok (.iastore, 1) := by decide +kernel
theorem dL_build_36 : decode cL_build 36 = .ok (.dup, 1) := by decide +kernel
theorem dL_build_37 : decode cL_build 37 = .ok (.bipush 7, 2) := by decide +kernel
theorem dL_build_39 : decode cL_build 39 = .ok (.bipush 10, 2) := by decide +kernel
theorem dL_build_41 : decode cL_build 41 = .ok (.iastore, 1) := by decide +kernel
theorem dL_build_42 : decode cL_build 42 = .ok (.dup, 1) := by decide +kernel
theorem dL_build_43 : decode cL_build 43 = .ok (.bipush 8, 2) := by decide +kernel
theorem dL_build_45 : decode cL_build 45 = .ok (.bipush 11, 2) := by decide +kernel
theorem dL_build_47 : decode cL_build 47 = .ok (.iastore, 1) := by decide +kernel
theorem dL_build_48 : decode cL_build 48 = .ok (.dup, 1) := by decide +kernel
theorem dL_build_49 : decode cL_build 49 = .ok (.bipush 9, 2) := by decide +kernel
theorem dL_build_51 : decode cL_build 51 = .ok (.bipush 12, 2) := by decide +kernel
theorem dL_build_53 : decode cL_build 53 = .ok (.iastore, 1) := by decide +kernel
theorem dL_build_54 : decode cL_build 54 = .ok (.dup, 1) := by decide +kernel
theorem dL_build_55 : decode cL_build 55 = .ok (.bipush 10, 2) := by decide +kernel
theorem dL_build_57 : decode cL_build 57 = .ok (.bipush 13, 2) := by decide +kernel
theorem dL_build_59 : decode cL_build 59 = .ok (.iastore, 1) := by decide +kernel
theorem dL_build_60 : decode cL_build 60 = .ok (.dup, 1) := by decide +kernel
theorem dL_build_61 : decode cL_build 61 = .ok (.bipush 11, 2) := by decide +kernel
theorem dL_build_63 : decode cL_build 63 = .ok (.bipush 20, 2) := by decide +kernel
theorem dL_build_65 : decode cL_build 65 = .ok (.iastore, 1) := by decide +kernel
theorem dL_build_66 : decode cL_build 66 = .ok (.dup, 1) := by decide +kernel
theorem dL_build_67 : decode cL_build 67 = .ok (.bipush 12, 2) := by decide +kernel
theorem dL_build_69 : decode cL_build 69 = .ok (.bipush 21, 2) := by decide +kernel
theorem dL_build_71 : decode cL_build 71 = .ok (.iastore, 1) := by decide +kernel
theorem dL_build_72 : decode cL_build 72 = .ok (.dup, 1) := by decide +kernel
theorem dL_build_73 : decode cL_build 73 = .ok (.bipush 13, 2) := by decide +kernel
theorem dL_build_75 : decode cL_build 75 = .ok (.bipush 22, 2) := by decide +kernel
theorem dL_build_77 : decode cL_build 77 = .ok (.iastore, 1) := by decide +kernel
theorem dL_build_78 : decode cL_build 78 = .ok (.astore 4, 2) := by decide +kernel
theorem dL_build_80 : decode cL_build 80 = .ok (.bipush 14, 2) := by decide +kernel
theorem dL_build_82 : decode cL_build 82 = .ok (.anewarray 28, 3) := by decide +kernel
theorem dL_build_85 : decode cL_build 85 = .ok (.dup, 1) := by decide +kernel
theorem dL_build_86 : decode cL_build 86 = .ok (.iconst 0, 1) := by decide +kernel
theorem dL_build_87 : decode cL_build 87 = .ok (.ldc 30, 2) := by decide +kernel
theorem dL_build_89 : decode cL_build 89 = .ok (.aastore, 1) := by decide +kernel
theorem dL_build_90 : decode cL_build 90 = .ok (.dup, 1) := by decide +kernel
theorem dL_build_91 : decode cL_build 91 = .ok (.iconst 1, 1) := by decide +kernel
theorem dL_build_92 : decode cL_build 92 = .ok (.ldc 32, 2) := by decide +kernel
theorem dL_build_94 : decode cL_build 94 = .ok (.aastore, 1) := by decide +kernel
theorem dL_build_95 : decode cL_build 95 = .ok (.dup, 1) := by decide +kernel
theorem dL_build_96 : decode cL_build 96 = .ok (.iconst 2, 1) := by decide +kernel
theorem dL_build_97 : decode cL_build 97 = .ok (.ldc 32, 2) := by decide +kernel
theorem dL_build_99 : decode cL_build 99 = .ok (.aastore, 1) := by decide +kernel
theorem dL_build_100 : decode cL_build 100 = .ok (.dup, 1) := by decide +kernel
theorem dL_build_101 : decode cL_build 101 = .ok (.iconst 3, 1) := by decide +kernel
theorem dL_build_102 : decode cL_build 102 = .ok (.ldc 34, 2) := by decide +kernel
theorem dL_build_104 : decode cL_build 104 = .ok (.aastore, 1) := by decide +kernel
theorem dL_build_105 : decode cL_build 105 = .ok (.dup, 1) := by decide +kernel
theorem dL_build_106 : decode cL_build 106 = .ok (.iconst 4, 1) := by decide +kernel
theorem dL_build_107 : decode cL_build 107 = .ok (.ldc 34, 2) := by decide +kernel
theorem dL_build_109 : decode cL_build 109 = .ok (.aastore, 1) := by decide +kernel
theorem dL_build_110 : decode cL_build 110 = .ok (.dup, 1) := by decide +kernel
theorem dL_build_111 : decode cL_build 111 = .ok (.iconst 5, 1) := by decide +kernel
theorem dL_build_112 : decode cL_build 112 = .ok (.ldc 36, 2) := by decide +kernel
theorem dL_build_114 : decode cL_build 114 = .ok (.aastore, 1) := by decide +kernel
theorem dL_build_115 : decode cL_build 115 = .ok (.dup, 1) := by decide +kernel
theorem dL_build_116 : decode cL_build 116 = .ok (.bipush 6, 2) := by decide +kernel
theorem dL_build_118 : decode cL_build 118 = .ok (.ldc 38, 2) := by decide +kernel
theorem dL_build_120 : decode cL_build 120 = .ok (.aastore, 1) := by decide +kernel
theorem dL_build_121 : decode cL_build 121 = .ok (.dup, 1) := by decide +kernel
theorem dL_build_122 : decode cL_build 122 = .ok (.bipush 7, 2) := by decide +kernel
theorem dL_build_124 : decode cL_build 124 = .ok (.ldc 36, 2) := by decide +kernel
theorem dL_build_126 : decode cL_build 126 = .ok (.aastore, 1) := by decide +kernel
theorem dL_build_127 : decode cL_build 127 = .ok (.dup, 1) := by decide +kernel
theorem dL_build_128 : decode cL_build 128 = .ok (.bipush 8, 2) := by decide +kernel
theorem dL_build_130 : decode cL_build 130 = .ok (.ldc 38, 2) := by decide +kernel
theorem dL_build_132 : decode cL_build 132 = .ok (.aastore, 1) := by decide +kernel
theorem dL_build_133 : decode cL_build 133 = .ok (.dup, 1) := by decide +kernel
theorem dL_build_134 : decode cL_build 134 = .ok (.bipush 9, 2) := by decide +kernel
theorem dL_build_136 : decode cL_build 136 = .ok (.ldc 38, 2) := by decide +kernel
theorem dL_build_138 : decode cL_build 138 = .ok (.aastore, 1) := by decide +kernel
theorem dL_build_139 : decode cL_build 139 = .ok (.dup, 1) := by decide +kernel
theorem dL_build_140 : decode cL_build 140 = .ok (.bipush 10, 2) := by decide +kernel
theorem dL_build_142 : decode cL_build 142 = .ok (.ldc 36, 2) := by decide +kernel
theorem dL_build_144 : decode cL_build 144 = .ok (.aastore, 1) := by decide +kernel
theorem dL_build_145 : decode cL_build 145 = .ok (.dup, 1) := by decide +kernel
theorem dL_build_146 : decode cL_build 146 = .ok (.bipush 11, 2) := by decide +kernel
theorem dL_build_148 : decode cL_build 148 = .ok (.ldc 36, 2) := by decide +kernel
theorem dL_build_150 : decode cL_build 150 = .ok (.aastore, 1) := by decide +kernel
theorem dL_build_151 : decode cL_build 151 = .ok (.dup, 1) := by decide +kernel
theorem dL_build_152 : decode cL_build 152 = .ok (.bipush 12, 2) := by decide +kernel
theorem dL_build_154 : decode cL_build 154 = .ok (.ldc 40, 2) := by decide +kernel
theorem dL_build_156 : decode cL_build 156 = .ok (.aastore, 1) := by decide +kernel
theorem dL_build_157 : decode cL_build 157 = .ok (.dup, 1) := by decide +kernel
theorem dL_build_158 : decode cL_build 158 = .ok (.bipush 13, 2) := by decide +kernel
theorem dL_build_160 : decode cL_build 160 = .ok (.ldc 40, 2) := by decide +kernel
theorem dL_build_162 : decode cL_build 162 = .ok (.aastore, 1) := by decide +kernel
theorem dL_build_163 : decode cL_build 163 = .ok (.astore 5, 2) := by decide +kernel
theorem dL_build_165 : decode cL_build 165 = .ok (.iload_n 3, 1) := by decide +kernel
theorem dL_build_166 : decode cL_build 166 = .ok (.newarray .int, 2) := by decide +kernel
theorem dL_build_168 : decode cL_build 168 = .ok (.astore 6, 2) := by decide +kernel
theorem dL_build_170 : decode cL_build 170 = .ok (.iconst 0, 1) := by decide +kernel
theorem dL_build_171 : decode cL_build 171 = .ok (.istore 7, 2) := by decide +kernel
theorem dL_build_173 : decode cL_build 173 = .ok (.iconst 0, 1) := by decide +kernel
theorem dL_build_174 : decode cL_build 174 = .ok (.istore 8, 2) := by decide +kernel
theorem dL_build_176 : decode cL_build 176 = .ok (.iload 8, 2) := by decide +kernel
theorem dL_build_178 : decode cL_build 178 = .ok (.iload_n 3, 1) := by decide +kernel
theorem dL_build_179 : decode cL_build 179 = .ok (.if_icmp .ge 445, 3) := by decide +kernel
theorem dL_build_182 : decode cL_build 182 = .ok (.aload_n 1, 1) := by decide +kernel
theorem dL_build_183 : decode cL_build 183 = .ok (.iload 8, 2) := by decide +kernel
theorem dL_build_185 : decode cL_build 185 = .ok (.bipush 16, 2) := by decide +kernel
theorem dL_build_187 : decode cL_build 187 = .ok (.irem, 1) := by decide +kernel
theorem dL_build_188 : decode cL_build 188 = .ok (.invokestatic 42, 3) := by decide +kernel
theorem dL_build_191 : decode cL_build 191 = .ok (.iload 8, 2) := by decide +kernel
theorem dL_build_193 : decode cL_build 193 = .ok (.bipush 16, 2) := by decide +kernel
theorem dL_build_195 : decode cL_build 195 = .ok (.idiv, 1) := by decide +kernel
theorem dL_build_196 : decode cL_build 196 = .ok (.iconst 4, 1) := by decide +kernel
theorem dL_build_197 : decode cL_build 197 = .ok (.imul, 1) := by decide +kernel
theorem dL_build_198 : decode cL_build 198 = .ok (.ishr, 1) := by decide +kernel
theorem dL_build_199 : decode cL_build 199 = .ok (.istore 9, 2) := by decide +kernel
theorem dL_build_201 : decode cL_build 201 = .ok (.iload 9, 2) := by decide +kernel
theorem dL_build_203 : decode cL_build 203 = .ok (.bipush 16, 2) := by decide +kernel
theorem dL_build_205 : decode cL_build 205 = .ok (.invokestatic 46, 3) := by decide +kernel
theorem dL_build_208 : decode cL_build 208 = .ok (.istore 10, 2) := by decide +kernel
theorem dL_build_210 : decode cL_build 210 = .ok (.iload 8, 2) := by decide +kernel
theorem dL_build_212 : decode cL_build 212 = .ok (.iconst 3, 1) := by decide +kernel
theorem dL_build_213 : decode cL_build 213 = .ok (.if_icmp .lt 10, 3) := by decide +kernel
theorem dL_build_216 : decode cL_build 216 = .ok (.iload 10, 2) := by decide +kernel
theorem dL_build_218 : decode cL_build 218 = .ok (.bipush 14, 2) := by decide +kernel
theorem dL_build_220 : decode cL_build 220 = .ok (.if_icmp .ne 55, 3) := by decide +kernel
theorem dL_build_223 : decode cL_build 223 = .ok (.aload_n 0, 1) := by decide +kernel
theorem dL_build_224 : decode cL_build 224 = .ok (.iconst (-1), 1) := by decide +kernel
theorem dL_build_225 : decode cL_build 225 = .ok (.iload 9, 2) := by decide +kernel
theorem dL_build_227 : decode cL_build 227 = .ok (.iconst 3, 1) := by decide +kernel
theorem dL_build_228 : decode cL_build 228 = .ok (.ishr, 1) := by decide +kernel
theorem dL_build_229 : decode cL_build 229 = .ok (.iload_n 2, 1) := by decide +kernel
theorem dL_build_230 : decode cL_build 230 = .ok (.invokestatic 46, 3) := by decide +kernel
theorem dL_build_233 : decode cL_build 233 = .ok (.iload 9, 2) := by decide +kernel
theorem dL_build_235 : decode cL_build 235 = .ok (.bipush 9, 2) := by decide +kernel
theorem dL_build_237 : decode cL_build 237 = .ok (.ishr, 1) := by decide +kernel
theorem dL_build_238 : decode cL_build 238 = .ok (.iload_n 2, 1) := by decide +kernel
theorem dL_build_239 : decode cL_build 239 = .ok (.invokestatic 46, 3) := by decide +kernel
theorem dL_build_242 : decode cL_build 242 = .ok (.invokevirtual 49, 3) := by decide +kernel
theorem dL_build_245 : decode cL_build 245 = .ok (.istore 11, 2) := by decide +kernel
theorem dL_build_247 : decode cL_build 247 = .ok (.iload 11, 2) := by decide +kernel
theorem dL_build_249 : decode cL_build 249 = .ok (.iload 7, 2) := by decide +kernel
theorem dL_build_251 : decode cL_build 251 = .ok (.if_icmp .ne 13, 3) := by decide +kernel
theorem dL_build_254 : decode cL_build 254 = .ok (.aload_n 0, 1) := by decide +kernel
theorem dL_build_255 : decode cL_build 255 = .ok (.iload 11, 2) := by decide +kernel
theorem dL_build_257 : decode cL_build 257 = .ok (.iconst 1, 1) := by decide +kernel
theorem dL_build_258 : decode cL_build 258 = .ok (.invokevirtual 15, 3) := by decide +kernel
theorem dL_build_261 : decode cL_build 261 = .ok (.ifCond .eq 5, 3) := by decide +kernel
theorem dL_build_264 : decode cL_build 264 = .ok (.iconst (-1), 1) := by decide +kernel
theorem dL_build_265 : decode cL_build 265 = .ok (.ireturn, 1) := by decide +kernel
theorem dL_build_266 : decode cL_build 266 = .ok (.aload 6, 2) := by decide +kernel
theorem dL_build_268 : decode cL_build 268 = .ok (.iload 7, 2) := by decide +kernel
theorem dL_build_270 : decode cL_build 270 = .ok (.iconst 0, 1) := by decide +kernel
theorem dL_build_271 : decode cL_build 271 = .ok (.iastore, 1) := by decide +kernel
theorem dL_build_272 : decode cL_build 272 = .ok (.goto 326, 3) := by decide +kernel
theorem dL_build_275 : decode cL_build 275 = .ok (.iload 10, 2) := by decide +kernel
theorem dL_build_277 : decode cL_build 277 = .ok (.bipush 15, 2) := by decide +kernel
theorem dL_build_279 : decode cL_build 279 = .ok (.if_icmp .ne 84, 3) := by decide +kernel
theorem dL_build_282 : decode cL_build 282 = .ok (.aload 6, 2) := by decide +kernel
theorem dL_build_284 : decode cL_build 284 = .ok (.iload 7, 2) := by decide +kernel
theorem dL_build_286 : decode cL_build 286 = .ok (.iconst 1, 1) := by decide +kernel
theorem dL_build_287 : decode cL_build 287 = .ok (.iload 9, 2) := by decide +kernel
theorem dL_build_289 : decode cL_build 289 = .ok (.iconst 4, 1) := by decide +kernel
theorem dL_build_290 : decode cL_build 290 = .ok (.ishr, 1) := by decide +kernel
theorem dL_build_291 : decode cL_build 291 = .ok (.invokestatic 53, 3) := by decide +kernel
theorem dL_build_294 : decode cL_build 294 = .ok (.istore 12, 2) := by decide +kernel
theorem dL_build_296 : decode cL_build 296 = .ok (.iload 12, 2) := by decide +kernel
theorem dL_build_298 : decode cL_build 298 = .ok (.ifCond .ge 6, 3) := by decide +kernel
theorem dL_build_301 : decode cL_build 301 = .ok (.goto 317, 3) := by decide +kernel
theorem dL_build_304 : decode cL_build 304 = .ok (.aload_n 0, 1) := by decide +kernel
theorem dL_build_305 : decode cL_build 305 = .ok (.iload 12, 2) := by decide +kernel
theorem dL_build_307 : decode cL_build 307 = .ok (.iload 9, 2) := by decide +kernel
theorem dL_build_309 : decode cL_build 309 = .ok (.iconst 3, 1) := by decide +kernel
theorem dL_build_310 : decode cL_build 310 = .ok (.ishr, 1) := by decide +kernel
theorem dL_build_311 : decode cL_build 311 = .ok (.iload_n 2, 1) := by decide +kernel
theorem dL_build_312 : decode cL_build 312 = .ok (.invokestatic 46, 3) := by decide +kernel
theorem dL_build_315 : decode cL_build 315 = .ok (.bipush 99, 2) := by decide +kernel
theorem dL_build_317 : decode cL_build 317 = .ok (.invokevirtual 49, 3) := by decide +kernel
theorem dL_build_320 : decode cL_build 320 = .ok (.istore 11, 2) := by decide +kernel
theorem dL_build_322 : decode cL_build 322 = .ok (.iload 11, 2) := by decide +kernel
theorem dL_build_324 : decode cL_build 324 = .ok (.iload 7, 2) := by decide +kernel
theorem dL_build_326 : decode cL_build 326 = .ok (.if_icmp .ne 26, 3) := by decide +kernel
theorem dL_build_329 : decode cL_build 329 = .ok (.aload_n 0, 1) := by decide +kernel
theorem dL_build_330 : decode cL_build 330 = .ok (.iload 11, 2) := by decide +kernel
theorem dL_build_332 : decode cL_build 332 = .ok (.iconst 1, 1) := by decide +kernel
theorem dL_build_333 : decode cL_build 333 = .ok (.invokevirtual 15, 3) := by decide +kernel
theorem dL_build_336 : decode cL_build 336 = .ok (.iconst 1, 1) := by decide +kernel
theorem dL_build_337 : decode cL_build 337 = .ok (.if_icmp .ne 15, 3) := by decide +kernel
theorem dL_build_340 : decode cL_build 340 = .ok (.aload_n 0, 1) := by decide +kernel
theorem dL_build_341 : decode cL_build 341 = .ok (.iload 11, 2) := by decide +kernel
theorem dL_build_343 : decode cL_build 343 = .ok (.iconst 2, 1) := by decide +kernel
theorem dL_build_344 : decode cL_build 344 = .ok (.invokevirtual 15, 3) := by decide +kernel
theorem dL_build_347 : decode cL_build 347 = .ok (.iload 12, 2) := by decide +kernel
theorem dL_build_349 : decode cL_build 349 = .ok (.if_icmp .eq 5, 3) := by decide +kernel
theorem dL_build_352 : decode cL_build 352 = .ok (.iconst (-1), 1) := by decide +kernel
theorem dL_build_353 : decode cL_build 353 = .ok (.ireturn, 1) := by decide +kernel
theorem dL_build_354 : decode cL_build 354 = .ok (.aload 6, 2) := by decide +kernel
theorem dL_build_356 : decode cL_build 356 = .ok (.iload 7, 2) := by decide +kernel
theorem dL_build_358 : decode cL_build 358 = .ok (.iconst 0, 1) := by decide +kernel
theorem dL_build_359 : decode cL_build 359 = .ok (.iastore, 1) := by decide +kernel
theorem dL_build_360 : decode cL_build 360 = .ok (.goto 238, 3) := by decide +kernel
theorem dL_build_363 : decode cL_build 363 = .ok (.iconst 3, 1) := by decide +kernel
theorem dL_build_364 : decode cL_build 364 = .ok (.newarray .int, 2) := by decide +kernel
theorem dL_build_366 : decode cL_build 366 = .ok (.astore 12, 2) := by decide +kernel
theorem dL_build_368 : decode cL_build 368 = .ok (.iconst 1, 1) := by decide +kernel
theorem dL_build_369 : decode cL_build 369 = .ok (.istore 13, 2) := by decide +kernel
theorem dL_build_371 : decode cL_build 371 = .ok (.iconst 0, 1) := by decide +kernel
theorem dL_build_372 : decode cL_build 372 = .ok (.istore 14, 2) := by decide +kernel
theorem dL_build_374 : decode cL_build 374 = .ok (.iload 14, 2) := by decide +kernel
theorem dL_build_376 : decode cL_build 376 = .ok (.aload 5, 2) := by decide +kernel
theorem dL_build_378 : decode cL_build 378 = .ok (.iload 10, 2) := by decide +kernel
theorem dL_build_380 : decode cL_build 380 = .ok (.aaload, 1) := by decide +kernel
theorem dL_build_381 : decode cL_build 381 = .ok (.invokevirtual 57, 3) := by decide +kernel
theorem dL_build_384 : decode cL_build 384 = .ok (.if_icmp .ge 69, 3) := by decide +kernel
theorem dL_build_387 : decode cL_build 387 = .ok (.aload 12, 2) := by decide +kernel
theorem dL_build_389 : decode cL_build 389 = .ok (.iload 14, 2) := by decide +kernel
theorem dL_build_391 : decode cL_build 391 = .ok (.aload 6, 2) := by decide +kernel
theorem dL_build_393 : decode cL_build 393 = .ok (.iload 7, 2) := by decide +kernel
theorem dL_build_395 : decode cL_build 395 = .ok (.aload 5, 2) := by decide +kernel
theorem dL_build_397 : decode cL_build 397 = .ok (.iload 10, 2) := by decide +kernel
theorem dL_build_399 : decode cL_build 399 = .ok (.aaload, 1) := by decide +kernel
theorem dL_build_400 : decode cL_build 400 = .ok (.iload 14, 2) := by decide +kernel
theorem dL_build_402 : decode cL_build 402 = .ok (.invokevirtual 61, 3) := by decide +kernel
theorem dL_build_405 : decode cL_build 405 = .ok (.bipush 48, 2) := by decide +kernel
theorem dL_build_407 : decode cL_build 407 = .ok (.isub, 1) := by decide +kernel
theorem dL_build_408 : decode cL_build 408 = .ok (.iload 9, 2) := by decide +kernel
theorem dL_build_410 : decode cL_build 410 = .ok (.iconst 3, 1) := by decide +kernel
theorem dL_build_411 : decode cL_build 411 = .ok (.iconst 2, 1) := by decide +kernel
theorem dL_build_412 : decode cL_build 412 = .ok (.iload 14, 2) := by decide +kernel
theorem dL_build_414 : decode cL_build 414 = .ok (.imul, 1) := by decide +kernel
theorem dL_build_415 : decode cL_build 415 = .ok (.iadd, 1) := by decide +kernel
theorem dL_build_416 : decode cL_build 416 = .ok (.ishr, 1) := by decide +kernel
theorem dL_build_417 : decode cL_build 417 = .ok (.bipush 7, 2) := by decide +kernel
theorem dL_build_419 : decode cL_build 419 = .ok (.iload 14, 2) := by decide +kernel
theorem dL_build_421 : decode cL_build 421 = .ok (.imul, 1) := by decide +kernel
theorem dL_build_422 : decode cL_build 422 = .ok (.iadd, 1) := by decide +kernel
theorem dL_build_423 : decode cL_build 423 = .ok (.invokestatic 53, 3) := by decide +kernel
theorem dL_build_426 : decode cL_build 426 = .ok (.iastore, 1) := by decide +kernel
theorem dL_build_427 : decode cL_build 427 = .ok (.iload 13, 2) := by decide +kernel
theorem dL_build_429 : decode cL_build 429 = .ok (.ifCond .eq 15, 3) := by decide +kernel
theorem dL_build_432 : decode cL_build 432 = .ok (.aload 12, 2) := by decide +kernel
theorem dL_build_434 : decode cL_build 434 = .ok (.iload 14, 2) := by decide +kernel
theorem dL_build_436 : decode cL_build 436 = .ok (.iaload, 1) := by decide +kernel
theorem dL_build_437 : decode cL_build 437 = .ok (.ifCond .lt 7, 3) := by decide +kernel
theorem dL_build_440 : decode cL_build 440 = .ok (.iconst 1, 1) := by decide +kernel
theorem dL_build_441 : decode cL_build 441 = .ok (.goto 4, 3) := by decide +kernel
theorem dL_build_444 : decode cL_build 444 = .ok (.iconst 0, 1) := by decide +kernel
theorem dL_build_445 : decode cL_build 445 = .ok (.istore 13, 2) := by decide +kernel
theorem dL_build_447 : decode cL_build 447 = .ok (.iinc 14 1, 3) := by decide +kernel
theorem dL_build_450 : decode cL_build 450 = .ok (.goto (-76), 3) := by decide +kernel
theorem dL_build_453 : decode cL_build 453 = .ok (.iload 13, 2) := by decide +kernel
theorem dL_build_455 : decode cL_build 455 = .ok (.ifCond .ne 6, 3) := by decide +kernel
theorem dL_build_458 : decode cL_build 458 = .ok (.goto 160, 3) := by decide +kernel
theorem dL_build_461 : decode cL_build 461 = .ok (.aload_n 0, 1) := by decide +kernel
theorem dL_build_462 : decode cL_build 462 = .ok (.aload 4, 2) := by decide +kernel
theorem dL_build_464 : decode cL_build 464 = .ok (.iload 10, 2) := by decide +kernel
theorem dL_build_466 : decode cL_build 466 = .ok (.iaload, 1) := by decide +kernel
theorem dL_build_467 : decode cL_build 467 = .ok (.aload 12, 2) := by decide +kernel
theorem dL_build_469 : decode cL_build 469 = .ok (.iconst 0, 1) := by decide +kernel
theorem dL_build_470 : decode cL_build 470 = .ok (.iaload, 1) := by decide +kernel
theorem dL_build_471 : decode cL_build 471 = .ok (.aload 12, 2) := by decide +kernel
theorem dL_build_473 : decode cL_build 473 = .ok (.iconst 1, 1) := by decide +kernel
theorem dL_build_474 : decode cL_build 474 = .ok (.iaload, 1) := by decide +kernel
theorem dL_build_475 : decode cL_build 475 = .ok (.aload 12, 2) := by decide +kernel
theorem dL_build_477 : decode cL_build 477 = .ok (.iconst 2, 1) := by decide +kernel
theorem dL_build_478 : decode cL_build 478 = .ok (.iaload, 1) := by decide +kernel
theorem dL_build_479 : decode cL_build 479 = .ok (.invokevirtual 65, 3) := by decide +kernel
theorem dL_build_482 : decode cL_build 482 = .ok (.istore 11, 2) := by decide +kernel
theorem dL_build_484 : decode cL_build 484 = .ok (.iload 11, 2) := by decide +kernel
theorem dL_build_486 : decode cL_build 486 = .ok (.iload 7, 2) := by decide +kernel
theorem dL_build_488 : decode cL_build 488 = .ok (.if_icmp .ne 74, 3) := by decide +kernel
theorem dL_build_491 : decode cL_build 491 = .ok (.aload_n 0, 1) := by decide +kernel
theorem dL_build_492 : decode cL_build 492 = .ok (.iload 11, 2) := by decide +kernel
theorem dL_build_494 : decode cL_build 494 = .ok (.iconst 1, 1) := by decide +kernel
theorem dL_build_495 : decode cL_build 495 = .ok (.invokevirtual 15, 3) := by decide +kernel
theorem dL_build_498 : decode cL_build 498 = .ok (.aload 4, 2) := by decide +kernel
theorem dL_build_500 : decode cL_build 500 = .ok (.iload 10, 2) := by decide +kernel
theorem dL_build_502 : decode cL_build 502 = .ok (.iaload, 1) := by decide +kernel
theorem dL_build_503 : decode cL_build 503 = .ok (.if_icmp .ne 59, 3) := by decide +kernel
theorem dL_build_506 : decode cL_build 506 = .ok (.aload_n 0, 1) := by decide +kernel
theorem dL_build_507 : decode cL_build 507 = .ok (.iload 11, 2) := by decide +kernel
theorem dL_build_509 : decode cL_build 509 = .ok (.iconst 2, 1) := by decide +kernel
theorem dL_build_510 : decode cL_build 510 = .ok (.invokevirtual 15, 3) := by decide +kernel
theorem dL_build_513 : decode cL_build 513 = .ok (.aload 12, 2) := by decide +kernel
theorem dL_build_515 : decode cL_build 515 = .ok (.iconst 0, 1) := by decide +kernel
theorem dL_build_516 : decode cL_build 516 = .ok (.iaload, 1) := by decide +kernel
theorem dL_build_517 : decode cL_build 517 = .ok (.if_icmp .ne 45, 3) := by decide +kernel
theorem dL_build_520 : decode cL_build 520 = .ok (.aload_n 0, 1) := by decide +kernel
theorem dL_build_521 : decode cL_build 521 = .ok (.iload 11, 2) := by decide +kernel
theorem dL_build_523 : decode cL_build 523 = .ok (.iconst 3, 1) := by decide +kernel
theorem dL_build_524 : decode cL_build 524 = .ok (.invokevirtual 15, 3) := by decide +kernel
theorem dL_build_527 : decode cL_build 527 = .ok (.aload 12, 2) := by decide +kernel
theorem dL_build_529 : decode cL_build 529 = .ok (.iconst 1, 1) := by decide +kernel
theorem dL_build_530 : decode cL_build 530 = .ok (.iaload, 1) := by decide +kernel
theorem dL_build_531 : decode cL_build 531 = .ok (.if_icmp .ne 31, 3) := by decide +kernel
theorem dL_build_534 : decode cL_build 534 = .ok (.aload_n 0, 1) := by decide +kernel
theorem dL_build_535 : decode cL_build 535 = .ok (.iload 11, 2) := by decide +kernel
theorem dL_build_537 : decode cL_build 537 = .ok (.iconst 4, 1) := by decide +kernel
theorem dL_build_538 : decode cL_build 538 = .ok (.invokevirtual 15, 3) := by decide +kernel
theorem dL_build_541 : decode cL_build 541 = .ok (.aload 4, 2) := by decide +kernel
theorem dL_build_543 : decode cL_build 543 = .ok (.iload 10, 2) := by decide +kernel
theorem dL_build_545 : decode cL_build 545 = .ok (.iaload, 1) := by decide +kernel
theorem dL_build_546 : decode cL_build 546 = .ok (.bipush 20, 2) := by decide +kernel
theorem dL_build_548 : decode cL_build 548 = .ok (.if_icmp .le 10, 3) := by decide +kernel
theorem dL_build_551 : decode cL_build 551 = .ok (.aload 12, 2) := by decide +kernel
theorem dL_build_553 : decode cL_build 553 = .ok (.iconst 2, 1) := by decide +kernel
theorem dL_build_554 : decode cL_build 554 = .ok (.iaload, 1) := by decide +kernel
theorem dL_build_555 : decode cL_build 555 = .ok (.goto 4, 3) := by decide +kernel
theorem dL_build_558 : decode cL_build 558 = .ok (.iconst (-1), 1) := by decide +kernel
theorem dL_build_559 : decode cL_build 559 = .ok (.if_icmp .eq 5, 3) := by decide +kernel
theorem dL_build_562 : decode cL_build 562 = .ok (.iconst (-1), 1) := by decide +kernel
theorem dL_build_563 : decode cL_build 563 = .ok (.ireturn, 1) := by decide +kernel
theorem dL_build_564 : decode cL_build 564 = .ok (.aload 6, 2) := by decide +kernel
theorem dL_build_566 : decode cL_build 566 = .ok (.iload 7, 2) := by decide +kernel
theorem dL_build_568 : decode cL_build 568 = .ok (.aload 4, 2) := by decide +kernel
theorem dL_build_570 : decode cL_build 570 = .ok (.iload 10, 2) := by decide +kernel
theorem dL_build_572 : decode cL_build 572 = .ok (.iaload, 1) := by decide +kernel
theorem dL_build_573 : decode cL_build 573 = .ok (.bipush 10, 2) := by decide +kernel
theorem dL_build_575 : decode cL_build 575 = .ok (.if_icmp .ge 7, 3) := by decide +kernel
theorem dL_build_578 : decode cL_build 578 = .ok (.iconst 0, 1) := by decide +kernel
theorem dL_build_579 : decode cL_build 579 = .ok (.goto 18, 3) := by decide +kernel
theorem dL_build_582 : decode cL_build 582 = .ok (.aload 4, 2) := by decide +kernel
theorem dL_build_584 : decode cL_build 584 = .ok (.iload 10, 2) := by decide +kernel
theorem dL_build_586 : decode cL_build 586 = .ok (.iaload, 1) := by decide +kernel
theorem dL_build_587 : decode cL_build 587 = .ok (.bipush 20, 2) := by decide +kernel
theorem dL_build_589 : decode cL_build 589 = .ok (.if_icmp .ge 7, 3) := by decide +kernel
theorem dL_build_592 : decode cL_build 592 = .ok (.iconst 1, 1) := by decide +kernel
theorem dL_build_593 : decode cL_build 593 = .ok (.goto 4, 3) := by decide +kernel
theorem dL_build_596 : decode cL_build 596 = .ok (.iconst 2, 1) := by decide +kernel
theorem dL_build_597 : decode cL_build 597 = .ok (.iastore, 1) := by decide +kernel
theorem dL_build_598 : decode cL_build 598 = .ok (.aload_n 0, 1) := by decide +kernel
theorem dL_build_599 : decode cL_build 599 = .ok (.iload 7, 2) := by decide +kernel
theorem dL_build_601 : decode cL_build 601 = .ok (.iconst 0, 1) := by decide +kernel
theorem dL_build_602 : decode cL_build 602 = .ok (.invokevirtual 15, 3) := by decide +kernel
theorem dL_build_605 : decode cL_build 605 = .ok (.aload 6, 2) := by decide +kernel
theorem dL_build_607 : decode cL_build 607 = .ok (.iload 7, 2) := by decide +kernel
theorem dL_build_609 : decode cL_build 609 = .ok (.iaload, 1) := by decide +kernel
theorem dL_build_610 : decode cL_build 610 = .ok (.if_icmp .eq 5, 3) := by decide +kernel
theorem dL_build_613 : decode cL_build 613 = .ok (.iconst (-1), 1) := by decide +kernel
theorem dL_build_614 : decode cL_build 614 = .ok (.ireturn, 1) := by decide +kernel
theorem dL_build_615 : decode cL_build 615 = .ok (.iinc 7 1, 3) := by decide +kernel
theorem dL_build_618 : decode cL_build 618 = .ok (.iinc 8 1, 3) := by decide +kernel
theorem dL_build_621 : decode cL_build 621 = .ok (.goto (-445), 3) := by decide +kernel
theorem dL_build_624 : decode cL_build 624 = .ok (.iload 7, 2) := by decide +kernel
theorem dL_build_626 : decode cL_build 626 = .ok (.ireturn, 1) := by decide +kernel
set_option maxRecDepth 20000 in
theorem ggL_pick_L_below : GoodIn wsL_pick wsL_below := goodIn_r _ [4, 5] rfl (by decide +kernel)
set_option maxRecDepth 20000 in
theorem gL_pick_L_below : GoodIn wsL_pick (va_wsS RL 46 yL_below wsL_below) := goodIn_app (goodIn_of _ (by decide +kernel)) ggL_pick_L_below
theorem dL_pick_0 : decode cL_pick 0 = .ok (.iconst 0, 1) := by decide +kernel
theorem dL_pick_1 : decode cL_pick 1 = .ok (.istore 4, 2) := by decide +kernel
theorem dL_pick_3 : decode cL_pick 3 = .ok (.iconst 0, 1) := by decide +kernel
theorem dL_pick_4 : decode cL_pick 4 = .ok (.istore 5, 2) := by decide +kernel
theorem dL_pick_6 : decode cL_pick 6 = .ok (.iload 5, 2) := by decide +kernel
theorem dL_pick_8 : decode cL_pick 8 = .ok (.iload_n 1, 1) := by decide +kernel
theorem dL_pick_9 : decode cL_pick 9 = .ok (.if_icmp .ge 27, 3) := by decide +kernel
theorem dL_pick_12 : decode cL_pick 12 = .ok (.iload 4, 2) := by decide +kernel
theorem dL_pick_14 : decode cL_pick 14 = .ok (.aload_n 0, 1) := by decide +kernel
theorem dL_pick_15 : decode cL_pick 15 = .ok (.iload 5, 2) := by decide +kernel
theorem dL_pick_17 : decode cL_pick 17 = .ok (.iaload, 1) := by decide +kernel
theorem dL_pick_18 : decode cL_pick 18 = .ok (.iload_n 2, 1) := by decide +kernel
theorem dL_pick_19 : decode cL_pick 19 = .ok (.if_icmp .ne 7, 3) := by decide +kernel
theorem dL_pick_22 : decode cL_pick 22 = .ok (.iconst 1, 1) := by decide +kernel
theorem dL_pick_23 : decode cL_pick 23 = .ok (.goto 4, 3) := by decide +kernel
theorem dL_pick_26 : decode cL_pick 26 = .ok (.iconst 0, 1) := by decide +kernel
theorem dL_pick_27 : decode cL_pick 27 = .ok (.iadd, 1) := by decide +kernel
theorem dL_pick_28 : decode cL_pick 28 = .ok (.istore 4, 2) := by decide +kernel
theorem dL_pick_30 : decode cL_pick 30 = .ok (.iinc 5 1, 3) := by decide +kernel
theorem dL_pick_33 : decode cL_pick 33 = .ok (.goto (-27), 3) := by decide +kernel
theorem dL_pick_36 : decode cL_pick 36 = .ok (.iload 4, 2) := by decide +kernel
theorem dL_pick_38 : decode cL_pick 38 = .ok (.ifCond .ne 5, 3) := by decide +kernel
theorem dL_pick_41 : decode cL_pick 41 = .ok (.iconst (-1), 1) := by decide +kernel
theorem dL_pick_42 : decode cL_pick 42 = .ok (.ireturn, 1) := by decide +kernel
theorem dL_pick_43 : decode cL_pick 43 = .ok (.iload_n 3, 1) := by decide +kernel
theorem dL_pick_44 : decode cL_pick 44 = .ok (.iload 4, 2) := by decide +kernel
theorem dL_pick_46 : decode cL_pick 46 = .ok (.invokestatic 46, 3) := by decide +kernel
theorem dL_pick_49 : decode cL_pick 49 = .ok (.istore 5, 2) := by decide +kernel
theorem dL_pick_51 : decode cL_pick 51 = .ok (.iconst 0, 1) := by decide +kernel
theorem dL_pick_52 : decode cL_pick 52 = .ok (.istore 6, 2) := by decide +kernel
theorem dL_pick_54 : decode cL_pick 54 = .ok (.iload 6, 2) := by decide +kernel
theorem dL_pick_56 : decode cL_pick 56 = .ok (.iload_n 1, 1) := by decide +kernel
theorem dL_pick_57 : decode cL_pick 57 = .ok (.if_icmp .ge 31, 3) := by decide +kernel
theorem dL_pick_60 : decode cL_pick 60 = .ok (.aload_n 0, 1) := by decide +kernel
theorem dL_pick_61 : decode cL_pick 61 = .ok (.iload 6, 2) := by decide +kernel
theorem dL_pick_63 : decode cL_pick 63 = .ok (.iaload, 1) := by decide +kernel
theorem dL_pick_64 : decode cL_pick 64 = .ok (.iload_n 2, 1) := by decide +kernel
theorem dL_pick_65 : decode cL_pick 65 = .ok (.if_icmp .eq 6, 3) := by decide +kernel
theorem dL_pick_68 : decode cL_pick 68 = .ok (.goto 14, 3) := by decide +kernel
theorem dL_pick_71 : decode cL_pick 71 = .ok (.iload 5, 2) := by decide +kernel
theorem dL_pick_73 : decode cL_pick 73 = .ok (.ifCond .ne 6, 3) := by decide +kernel
theorem dL_pick_76 : decode cL_pick 76 = .ok (.iload 6, 2) := by decide +kernel
theorem dL_pick_78 : decode cL_pick 78 = .ok (.ireturn, 1) := by decide +kernel
theorem dL_pick_79 : decode cL_pick 79 = .ok (.iinc 5 (-1), 3) := by decide +kernel
theorem dL_pick_82 : decode cL_pick 82 = .ok (.iinc 6 1, 3) := by decide +kernel
theorem dL_pick_85 : decode cL_pick 85 = .ok (.goto (-31), 3) := by decide +kernel
theorem dL_pick_88 : decode cL_pick 88 = .ok (.iconst (-1), 1) := by decide +kernel
theorem dL_pick_89 : decode cL_pick 89 = .ok (.ireturn, 1) := by decide +kernel
set_option maxRecDepth 20000 in
theorem ggL_law_X8_init : GoodIn wsL_law wsX8_init := goodIn_r _ [7, 8, 9, 10, 11, 12, 13, 14, 15, 16, 17, 18, 19, 20, 21, 22, 23, 24, 25, 26, 27, 28, 29, 30, 31, 32, 33, 34, 35, 36, 37, 38, 39, 40, 41, 42, 43, 44, 45, 46, 47, 48, 49, 50, 51, 52, 53, 54, 55, 56, 57, 4, 58, 59, 60, 61, 62, 63, 64, 65, 66, 67, 68, 69, 70, 71, 72, 73, 74, 75, 76, 77, 78, 79, 80, 81, 82, 83, 84, 85, 86, 87, 88, 89, 90, 91, 92, 93, 94, 95, 96, 97, 98, 99, 100, 101, 102, 103, 104, 105, 106, 107, 108, 109, 110, 111, 112, 113, 578, 579, 580, 581, 572, 573, 574, 575, 576, 577, 582, 583, 584, 585, 586, 587, 588, 589, 590, 591, 592, 593, 594, 595, 596, 597, 598, 599, 600, 601, 602, 603, 604, 605, 606, 607, 608, 609, 610, 611, 612] rfl (by decide +kernel)
set_option maxRecDepth 20000 in
theorem gL_law_X8_init : GoodIn wsL_law (wsX8_init) := ggL_law_X8_init
set_option maxRecDepth 20000 in
theorem ggL_law_L_cell : GoodIn wsL_law wsL_cell := goodIn_r _ [117, 118] rfl (by decide +kernel)
set_option maxRecDepth 20000 in
theorem gL_law_L_cell : GoodIn wsL_law (va_wsS RL 42 yL_cell wsL_cell) := goodIn_app (goodIn_of _ (by decide +kernel)) ggL_law_L_cell
set_option maxRecDepth 20000 in
theorem ggL_law_L_below : GoodIn wsL_law wsL_below := goodIn_r _ [121, 122] rfl (by decide +kernel)
set_option maxRecDepth 20000 in
theorem gL_law_L_below : GoodIn wsL_law (va_wsS RL 46 yL_below wsL_below) := goodIn_app (goodIn_of _ (by decide +kernel)) ggL_law_L_below
set_option maxRecDepth 20000 in
theorem ggL_law_X8_begin : GoodIn wsL_law wsX8_begin := goodIn_ca (goodIn_r _ [126, 127, 128, 18, 22, 129, 26, 130, 131, 132, 50, 133, 99, 100, 101, 102, 57, 59, 58, 103, 104, 105, 106, 107, 108, 109, 110, 111, 112, 113, 572, 573, 574, 575, 576, 577, 584, 585, 586, 587, 588, 589, 605, 606, 607] rfl (by decide +kernel)) (goodIn_sub (fun _ h => List.mem_append_left _ (List.mem_append_left _ (List.mem_append_right _ h))) (by decide +kernel))
set_option maxRecDepth 20000 in
theorem gL_law_X8_begin : GoodIn wsL_law (wsV RL 94 RX8 yX8_begin wsX8_begin) := goodIn_app (goodIn_of _ (by decide +kernel)) ggL_law_X8_begin
set_option maxRecDepth 20000 in
theorem ggL_law_L_build : GoodIn wsL_law wsL_build := goodIn_ca (goodIn_ca (goodIn_ca (goodIn_r _ [136, 4, 137, 114, 115, 116, 117, 118, 119, 120, 121, 122, 138, 139, 140, 2, 141, 142, 143, 127, 128, 144, 145, 22, 18, 129, 146, 147, 148, 149, 21, 150, 151, 152, 153, 154, 155, 74, 75, 156, 157, 158, 42, 159, 160, 161, 162, 163, 50, 164, 57, 165, 166, 167, 168, 169, 170, 171, 172, 173, 64, 65, 66, 174, 175, 176, 177, 178, 179, 180, 181, 182, 183, 184, 185, 186, 187, 16, 188, 189, 190, 36, 191, 192, 193, 194, 53, 195, 196, 197, 198, 199, 200, 51, 201, 104, 105, 106, 107, 108, 109, 110, 202, 203, 204, 205, 206, 207, 208, 209, 210, 211, 212, 213, 214, 215, 216, 217, 103, 218, 219, 220, 221, 58, 222, 223, 224, 225, 226, 227, 228, 229, 230, 231, 232, 233, 234, 235, 236, 237, 59, 238, 239, 240, 241, 242, 243, 244, 245, 246, 247, 248, 249, 250, 251, 252, 253, 254, 255, 256, 257, 258, 259, 260, 261, 262, 263, 264, 265, 266, 267, 268, 269, 270, 271, 272, 273, 274, 275, 276, 277, 278, 279, 280, 281, 282, 283, 284, 285, 286, 287, 288, 289, 290, 291, 292, 293, 294, 295, 296, 297, 298, 299, 300, 301, 302, 303, 304, 305, 306, 307, 308, 309, 310, 311, 312, 313, 314, 315, 316, 317, 318, 319, 320, 321, 322, 323, 324, 325, 326, 327, 328, 329, 330, 331, 332, 333, 334, 335, 336, 337, 338, 339, 340, 341, 342, 343, 344, 345, 346, 347, 348, 349, 350, 351, 352, 353, 354, 355, 356, 357, 358, 359, 572, 573, 574, 575, 576, 577, 584, 585, 586, 592, 593, 594, 595, 596, 597, 598, 599, 600, 601, 602, 603, 604, 605, 606, 607, 582, 583] rfl (by decide +kernel)) (goodIn_sub (fun _ h => List.mem_append_left _ (List.mem_append_right _ h)) (by decide +kernel))) (goodIn_sub (fun _ h => List.mem_append_left _ (List.mem_append_left _ (List.mem_append_right _ h))) (by decide +kernel))) (goodIn_sub (fun _ h => List.mem_append_right _ h) (by decide +kernel))
set_option maxRecDepth 20000 in
theorem gL_law_L_build : GoodIn wsL_law (va_wsS RL 97 yL_build wsL_build) := goodIn_app (goodIn_of _ (by decide +kernel)) ggL_law_L_build
set_option maxRecDepth 20000 in
theorem ggL_law_X8_object : GoodIn wsL_law wsX8_object := goodIn_ca (goodIn_r _ [282, 142, 143, 22, 147, 148, 149, 21, 150, 151, 152, 153, 154, 155, 74, 75, 283, 284, 285, 42, 286, 160, 64, 65, 66, 287, 288, 157, 158, 159, 572, 573, 574, 575, 576, 577, 584, 585, 586, 592, 593, 594, 595, 596, 597, 598, 599, 600, 601, 602, 603, 604] rfl (by decide +kernel)) (goodIn_sub (fun _ h => List.mem_append_left _ (List.mem_append_right _ h)) (by decide +kernel))
set_option maxRecDepth 20000 in
theorem gL_law_X8_object : GoodIn wsL_law (wsV RL 15 RX8 yX8_object wsX8_object) := goodIn_app (goodIn_of _ (by decide +kernel)) ggL_law_X8_object
set_option maxRecDepth 20000 in
theorem ggL_law_X8_places : GoodIn wsL_law wsX8_places := goodIn_ca (goodIn_r _ [363, 142, 143, 22, 187, 18, 364, 147, 148, 149, 21, 150, 151, 152, 153, 154, 155, 74, 75, 156, 157, 158, 42, 159, 160, 572, 573, 574, 575, 576, 577, 592, 593, 594, 595, 596, 597, 598, 599, 600, 601, 602, 603, 604, 605, 606, 607, 584, 585, 586] rfl (by decide +kernel)) (goodIn_sub (fun _ h => List.mem_append_left _ (List.mem_append_right _ h)) (by decide +kernel))
set_option maxRecDepth 20000 in
theorem gL_law_X8_places : GoodIn wsL_law (wsV RL 69 RX8 yX8_places wsX8_places) := goodIn_app (goodIn_of _ (by decide +kernel)) ggL_law_X8_places
set_option maxRecDepth 20000 in
theorem ggL_law_X8_number : GoodIn wsL_law wsX8_number := goodIn_ca (goodIn_ca (goodIn_r _ [368, 142, 143, 144, 145, 22, 187, 369, 370, 371, 147, 148, 149, 21, 150, 151, 152, 153, 154, 155, 74, 75, 572, 573, 574, 575, 576, 577, 592, 593, 594, 595, 596, 597, 598, 599, 600, 601, 602, 603, 604, 584, 585, 586] rfl (by decide +kernel)) (goodIn_sub (fun _ h => List.mem_append_left _ (List.mem_append_right _ h)) (by decide +kernel))) (goodIn_sub (fun _ h => List.mem_append_right _ h) (by decide +kernel))
set_option maxRecDepth 20000 in
theorem gL_law_X8_number : GoodIn wsL_law (wsV RL 9 RX8 yX8_number wsX8_number) := goodIn_app (goodIn_of _ (by decide +kernel)) ggL_law_X8_number
set_option maxRecDepth 20000 in
theorem ggL_law_L_has : GoodIn wsL_law wsL_has := goodIn_ca (goodIn_ca (goodIn_r _ [374, 365, 366, 367, 2, 368, 142, 143, 144, 145, 22, 187, 369, 370, 371, 147, 148, 149, 21, 150, 151, 152, 153, 154, 155, 74, 75, 279, 280, 281, 282, 283, 284, 285, 42, 286, 160, 64, 65, 66, 287, 288, 157, 158, 159, 375, 376, 116, 377, 572, 573, 574, 575, 576, 577, 592, 593, 594, 595, 596, 597, 598, 599, 600, 601, 602, 603, 604, 584, 585, 586] rfl (by decide +kernel)) (goodIn_sub (fun _ h => List.mem_append_left _ (List.mem_append_right _ h)) (by decide +kernel))) (goodIn_sub (fun _ h => List.mem_append_right _ h) (by decide +kernel))
set_option maxRecDepth 20000 in
theorem gL_law_L_has : GoodIn wsL_law (va_wsS RL 24 yL_has wsL_has) := goodIn_app (goodIn_of _ (by decide +kernel)) ggL_law_L_has
set_option maxRecDepth 20000 in
theorem ggL_law_X8_count : GoodIn wsL_law wsX8_count := goodIn_ca (goodIn_r _ [381, 142, 143, 18, 364, 22, 129, 26, 130, 382, 383, 384, 21, 385, 151, 386, 169, 153, 154, 155, 74, 75, 387, 388, 389, 390, 391, 572, 573, 574, 575, 576, 577, 605, 606, 607, 584, 585, 586, 587, 588, 589, 592, 593, 594, 595, 596, 597, 598, 599, 600, 601, 602, 603, 604] rfl (by decide +kernel)) (goodIn_sub (fun _ h => List.mem_append_left _ (List.mem_append_right _ h)) (by decide +kernel))
set_option maxRecDepth 20000 in
theorem gL_law_X8_count : GoodIn wsL_law (wsV RL 101 RX8 yX8_count wsX8_count) := goodIn_app (goodIn_of _ (by decide +kernel)) ggL_law_X8_count
set_option maxRecDepth 20000 in
theorem ggL_law_X8_digest : GoodIn wsL_law wsX8_digest := goodIn_r _ [395, 396, 397, 18, 364, 22, 129, 26, 130, 382, 383, 384, 21, 385, 151, 386, 169, 153, 154, 155, 74, 75, 387, 388, 389, 390, 391, 152, 398, 399, 400, 42, 401, 402, 287, 206, 207, 208, 403, 284, 285, 286, 160, 64, 65, 66, 288, 157, 158, 159, 404, 405, 406, 25, 407, 408, 82, 85, 409, 410, 411, 2, 412, 413, 414, 415, 416, 187, 14, 417, 418, 419, 420, 13, 421, 37, 39, 422, 423, 424, 231, 232, 36, 233, 51, 195, 196, 213, 201, 104, 105, 50, 106, 57, 107, 108, 109, 110, 425, 426, 427, 428, 429, 430, 268, 269, 270, 431, 432, 433, 434, 435, 436, 437, 438, 439, 440, 441, 442, 443, 444, 445, 446, 43, 447, 223, 224, 225, 214, 215, 216, 217, 103, 218, 219, 220, 221, 58, 197, 198, 199, 200, 202, 203, 204, 205, 572, 573, 574, 575, 576, 577, 605, 606, 607, 584, 585, 586, 587, 588, 589, 592, 593, 594, 595, 596, 597, 598, 599, 600, 601, 602, 603, 604, 608, 609, 610, 611, 612, 578, 579, 580, 581, 582, 583] rfl (by decide +kernel)
set_option maxRecDepth 20000 in
theorem gL_law_X8_digest : GoodIn wsL_law (wsV RL 104 RX8 yX8_digest wsX8_digest) := goodIn_app (goodIn_of _ (by decide +kernel)) ggL_law_X8_digest
set_option maxRecDepth 20000 in
theorem ggL_law_L_pick : GoodIn wsL_law wsL_pick := goodIn_r _ [291, 119, 120, 116, 121, 122] rfl (by decide +kernel)
set_option maxRecDepth 20000 in
theorem gL_law_L_pick : GoodIn wsL_law (va_wsS RL 53 yL_pick wsL_pick) := goodIn_app (goodIn_of _ (by decide +kernel)) ggL_law_L_pick
set_option maxRecDepth 20000 in
theorem ggL_law_X8_locus : GoodIn wsL_law wsX8_locus := goodIn_ca (goodIn_ca (goodIn_r _ [451, 142, 143, 144, 145, 22, 452, 30, 453, 18, 364, 454, 129, 14, 455, 147, 148, 149, 21, 150, 151, 152, 153, 154, 155, 74, 75, 156, 157, 158, 42, 159, 160, 456, 457, 458, 459, 460, 461, 462, 463, 464, 169, 465, 466, 467, 468, 469, 470, 471, 472, 473, 474, 475, 476, 477, 478, 479, 480, 29, 481, 97, 482, 483, 484, 485, 486, 2, 487, 146, 488, 489, 174, 175, 176, 177, 178, 179, 180, 181, 182, 183, 184, 185, 186, 187, 16, 188, 189, 190, 36, 191, 192, 193, 194, 53, 195, 196, 197, 198, 199, 200, 51, 201, 104, 105, 50, 106, 57, 107, 108, 109, 110, 202, 203, 204, 205, 206, 207, 208, 209, 210, 211, 212, 213, 214, 215, 216, 217, 103, 218, 219, 220, 221, 58, 222, 223, 224, 225, 226, 227, 228, 229, 230, 231, 232, 233, 234, 235, 236, 237, 59, 238, 239, 240, 241, 242, 243, 244, 245, 246, 247, 248, 249, 250, 251, 252, 253, 254, 255, 256, 257, 258, 259, 260, 261, 262, 263, 264, 265, 266, 267, 268, 269, 270, 271, 272, 273, 274, 275, 276, 277, 278, 490, 491, 492, 493, 494, 495, 496, 497, 498, 499, 500, 501, 502, 440, 441, 442, 503, 166, 167, 168, 504, 505, 506, 507, 13, 508, 509, 510, 511, 512, 513, 514, 431, 432, 433, 434, 39, 422, 423, 435, 515, 516, 517, 518, 37, 44, 519, 425, 426, 427, 428, 429, 430, 520, 521, 522, 523, 572, 573, 574, 575, 576, 577, 592, 593, 594, 595, 596, 597, 598, 599, 600, 601, 602, 603, 604, 605, 606, 607, 590, 591, 584, 585, 586, 582, 583, 578, 579, 580, 581] rfl (by decide +kernel)) (goodIn_sub (fun _ h => List.mem_append_left _ (List.mem_append_right _ h)) (by decide +kernel))) (goodIn_sub (fun _ h => List.mem_append_right _ h) (by decide +kernel))
set_option maxRecDepth 20000 in
theorem gL_law_X8_locus : GoodIn wsL_law (wsV RL 108 RX8 yX8_locus wsX8_locus) := goodIn_app (goodIn_of _ (by decide +kernel)) ggL_law_X8_locus
set_option maxRecDepth 20000 in
theorem ggL_law_X8_claim : GoodIn wsL_law wsX8_claim := goodIn_ca (goodIn_ca (goodIn_ca (goodIn_r _ [527, 127, 128, 142, 143, 144, 145, 528, 22, 26, 130, 349, 350, 2, 351, 352, 353, 354, 355, 147, 148, 149, 21, 150, 151, 356, 357, 358, 359, 152, 153, 154, 155, 74, 75, 156, 157, 158, 42, 159, 160, 529, 530, 531, 25, 532, 408, 82, 85, 533, 405, 406, 407, 534, 535, 536, 84, 537, 538, 89, 90, 91, 92, 572, 573, 574, 575, 576, 577, 587, 588, 589, 584, 585, 586, 592, 593, 594, 595, 596, 597, 598, 599, 600, 601, 602, 603, 604, 608, 609, 610, 611, 612] rfl (by decide +kernel)) (goodIn_sub (fun _ h => List.mem_append_left _ (List.mem_append_left _ (List.mem_append_right _ h))) (by decide +kernel))) (goodIn_sub (fun _ h => List.mem_append_left _ (List.mem_append_right _ h)) (by decide +kernel))) (goodIn_sub (fun _ h => List.mem_append_right _ h) (by decide +kernel))
set_option maxRecDepth 20000 in
theorem gL_law_X8_claim : GoodIn wsL_law (wsV RL 111 RX8 yX8_claim wsX8_claim) := goodIn_app (goodIn_of _ (by decide +kernel)) ggL_law_X8_claim
set_option maxRecDepth 20000 in
theorem ggL_law_X8_everywhere : GoodIn wsL_law wsX8_everywhere := goodIn_ca (goodIn_ca (goodIn_r _ [542, 142, 143, 144, 145, 26, 22, 452, 453, 543, 18, 364, 544, 545, 546, 25, 547, 408, 147, 148, 149, 21, 150, 151, 152, 153, 154, 155, 74, 75, 404, 405, 406, 407, 82, 85, 456, 457, 458, 459, 460, 461, 462, 463, 464, 169, 548, 549, 550, 551, 552, 469, 553, 554, 555, 470, 471, 472, 473, 474, 475, 476, 477, 484, 485, 486, 2, 487, 146, 129, 488, 489, 174, 175, 176, 42, 177, 178, 179, 180, 181, 182, 183, 184, 185, 186, 187, 16, 188, 189, 190, 36, 191, 192, 193, 194, 53, 195, 196, 197, 198, 199, 200, 51, 201, 104, 105, 50, 106, 57, 107, 108, 109, 110, 202, 203, 204, 205, 206, 207, 208, 209, 210, 211, 212, 213, 214, 215, 216, 217, 103, 218, 219, 220, 221, 58, 222, 223, 224, 225, 226, 227, 228, 229, 230, 231, 232, 233, 234, 235, 236, 237, 59, 238, 239, 240, 241, 242, 243, 244, 245, 246, 247, 248, 249, 250, 251, 252, 253, 254, 255, 256, 257, 258, 259, 260, 261, 262, 263, 264, 265, 266, 267, 268, 269, 270, 271, 272, 273, 274, 275, 276, 277, 278, 409, 410, 411, 412, 413, 414, 415, 416, 14, 417, 418, 419, 420, 13, 421, 37, 39, 422, 423, 424, 425, 426, 427, 428, 429, 430, 431, 432, 433, 434, 435, 436, 437, 438, 439, 440, 441, 442, 443, 444, 445, 446, 43, 447, 572, 573, 574, 575, 576, 577, 592, 593, 594, 595, 596, 597, 598, 599, 600, 601, 602, 603, 604, 605, 606, 607, 587, 588, 589, 584, 585, 586, 608, 609, 610, 611, 612, 582, 583, 578, 579, 580, 581] rfl (by decide +kernel)) (goodIn_sub (fun _ h => List.mem_append_left _ (List.mem_append_right _ h)) (by decide +kernel))) (goodIn_sub (fun _ h => List.mem_append_right _ h) (by decide +kernel))
set_option maxRecDepth 20000 in
theorem gL_law_X8_everywhere : GoodIn wsL_law (wsV RL 114 RX8 yX8_everywhere wsX8_everywhere) := goodIn_app (goodIn_of _ (by decide +kernel)) ggL_law_X8_everywhere
set_option maxRecDepth 20000 in
theorem ggL_law_X8_move : GoodIn wsL_law wsX8_move := goodIn_ca (goodIn_ca (goodIn_ca (goodIn_r _ [559, 142, 143, 127, 128, 144, 145, 22, 18, 452, 147, 148, 149, 21, 150, 151, 152, 153, 154, 155, 74, 75, 161, 162, 163, 50, 164, 57, 456, 457, 458, 459, 460, 461, 462, 463, 464, 169, 560, 561, 562, 563, 470, 471, 472, 473, 469, 484, 485, 486, 2, 487, 146, 129, 488, 489, 174, 175, 176, 42, 177, 178, 179, 180, 181, 182, 183, 184, 185, 186, 187, 16, 188, 189, 190, 36, 191, 192, 193, 194, 53, 195, 196, 197, 198, 199, 200, 51, 201, 104, 105, 106, 107, 108, 109, 110, 202, 203, 204, 205, 206, 207, 208, 209, 210, 211, 212, 213, 214, 215, 216, 217, 103, 218, 219, 220, 221, 58, 222, 223, 224, 225, 226, 227, 228, 229, 230, 231, 232, 233, 234, 235, 236, 237, 59, 238, 239, 240, 241, 242, 243, 244, 245, 246, 247, 248, 249, 250, 251, 252, 253, 254, 255, 256, 257, 258, 259, 260, 261, 262, 263, 264, 265, 266, 267, 268, 269, 270, 271, 272, 273, 274, 275, 276, 277, 278, 387, 388, 389, 390, 391, 572, 573, 574, 575, 576, 577, 592, 593, 594, 595, 596, 597, 598, 599, 600, 601, 602, 603, 604, 584, 585, 586, 605, 606, 607, 582, 583] rfl (by decide +kernel)) (goodIn_sub (fun _ h => List.mem_append_left _ (List.mem_append_right _ h)) (by decide +kernel))) (goodIn_sub (fun _ h => List.mem_append_left _ (List.mem_append_left _ (List.mem_append_right _ h))) (by decide +kernel))) (goodIn_sub (fun _ h => List.mem_append_right _ h) (by decide +kernel))
set_option maxRecDepth 20000 in
theorem gL_law_X8_move : GoodIn wsL_law (wsV RL 117 RX8 yX8_move wsX8_move) := goodIn_app (goodIn_of _ (by decide +kernel)) ggL_law_X8_move
set_option maxRecDepth 20000 in
theorem ggL_law_X8_holds : GoodIn wsL_law wsX8_holds := goodIn_ca (goodIn_r _ [567, 142, 143, 26, 544, 545, 546, 25, 547, 408, 404, 405, 406, 407, 82, 85, 409, 410, 411, 2, 412, 22, 413, 414, 415, 416, 187, 14, 417, 152, 153, 154, 21, 155, 151, 74, 75, 418, 419, 420, 13, 421, 37, 39, 422, 423, 424, 231, 232, 36, 233, 51, 195, 196, 213, 201, 104, 105, 50, 106, 57, 107, 108, 109, 110, 425, 426, 427, 428, 429, 430, 268, 269, 270, 431, 432, 433, 434, 435, 436, 437, 438, 439, 440, 441, 42, 442, 206, 207, 208, 443, 444, 445, 446, 43, 447, 223, 224, 225, 214, 215, 216, 217, 103, 218, 219, 220, 221, 58, 197, 198, 199, 200, 202, 203, 204, 205, 572, 573, 574, 575, 576, 577, 587, 588, 589, 608, 609, 610, 611, 612, 592, 593, 594, 595, 596, 597, 598, 599, 600, 601, 602, 603, 604, 584, 585, 586, 578, 579, 580, 581, 582, 583, 605, 606, 607] rfl (by decide +kernel)) (goodIn_sub (fun _ h => List.mem_append_left _ (List.mem_append_right _ h)) (by decide +kernel))
set_option maxRecDepth 20000 in
theorem gL_law_X8_holds : GoodIn wsL_law (wsV RL 120 RX8 yX8_holds wsX8_holds) := goodIn_app (goodIn_of _ (by decide +kernel)) ggL_law_X8_holds
set_option maxRecDepth 20000 in
theorem ggL_law_X8_truth : GoodIn wsL_law wsX8_truth := goodIn_r _ [571, 26, 130, 404, 405, 406, 25, 407, 408, 82, 85, 409, 410, 411, 2, 412, 22, 413, 414, 415, 416, 187, 14, 417, 152, 153, 154, 21, 155, 151, 74, 75, 418, 419, 420, 13, 421, 37, 39, 422, 423, 424, 231, 232, 36, 233, 51, 195, 196, 213, 201, 104, 105, 50, 106, 57, 107, 108, 109, 110, 425, 426, 427, 428, 429, 430, 268, 269, 270, 431, 432, 433, 434, 435, 436, 437, 438, 439, 440, 441, 42, 442, 206, 207, 208, 443, 444, 445, 446, 43, 447, 223, 224, 225, 214, 215, 216, 217, 103, 218, 219, 220, 221, 58, 197, 198, 199, 200, 202, 203, 204, 205, 572, 573, 574, 575, 576, 577, 587, 588, 589, 608, 609, 610, 611, 612, 592, 593, 594, 595, 596, 597, 598, 599, 600, 601, 602, 603, 604, 584, 585, 586, 578, 579, 580, 581, 582, 583, 605, 606, 607] rfl (by decide +kernel)
set_option maxRecDepth 20000 in
theorem gL_law_X8_truth : GoodIn wsL_law (wsV RL 123 RX8 yX8_truth wsX8_truth) := goodIn_app (goodIn_of _ (by decide +kernel)) ggL_law_X8_truth
theorem dL_law_0 : decode cL_law 0 = .ok (.new 10, 3) := by decide +kernel
theorem dL_law_3 : decode cL_law 3 = .ok (.dup, 1) := by decide +kernel
theorem dL_law_4 : decode cL_law 4 = .ok (.invokespecial 89, 3) := by decide +kernel
theorem dL_law_7 : decode cL_law 7 = .ok (.astore_n 1, 1) := by decide +kernel
theorem dL_law_8 : decode cL_law 8 = .ok (.getstatic 90, 3) := by decide +kernel
theorem dL_law_11 : decode cL_law 11 = .ok (.aload_n 0, 1) := by decide +kernel
theorem dL_law_12 : decode cL_law 12 = .ok (.iconst 0, 1) := by decide +kernel
theorem dL_law_13 : decode cL_law 13 = .ok (.invokestatic 42, 3) := by decide +kernel
theorem dL_law_16 : decode cL_law 16 = .ok (.iconst 4, 1) := by decide +kernel
theorem dL_law_17 : decode cL_law 17 = .ok (.invokestatic 46, 3) := by decide +kernel
theorem dL_law_20 : decode cL_law 20 = .ok (.iaload, 1) := by decide +kernel
theorem dL_law_21 : decode cL_law 21 = .ok (.istore_n 2, 1) := by decide +kernel
theorem dL_law_22 : decode cL_law 22 = .ok (.aload_n 1, 1) := by decide +kernel
theorem dL_law_23 : decode cL_law 23 = .ok (.iload_n 2, 1) := by decide +kernel
theorem dL_law_24 : decode cL_law 24 = .ok (.invokevirtual 94, 3) := by decide +kernel
theorem dL_law_27 : decode cL_law 27 = .ok (.pop, 1) := by decide +kernel
theorem dL_law_28 : decode cL_law 28 = .ok (.aload_n 1, 1) := by decide +kernel
theorem dL_law_29 : decode cL_law 29 = .ok (.aload_n 0, 1) := by decide +kernel
theorem dL_law_30 : decode cL_law 30 = .ok (.iload_n 2, 1) := by decide +kernel
theorem dL_law_31 : decode cL_law 31 = .ok (.bipush 24, 2) := by decide +kernel
theorem dL_law_33 : decode cL_law 33 = .ok (.invokestatic 97, 3) := by decide +kernel
theorem dL_law_36 : decode cL_law 36 = .ok (.istore_n 3, 1) := by decide +kernel
theorem dL_law_37 : decode cL_law 37 = .ok (.iload_n 3, 1) := by decide +kernel
theorem dL_law_38 : decode cL_law 38 = .ok (.ifCond .ge 5, 3) := by decide +kernel
theorem dL_law_41 : decode cL_law 41 = .ok (.iconst 0, 1) := by decide +kernel
theorem dL_law_42 : decode cL_law 42 = .ok (.ireturn, 1) := by decide +kernel
theorem dL_law_43 : decode cL_law 43 = .ok (.iload_n 3, 1) := by decide +kernel
theorem dL_law_44 : decode cL_law 44 = .ok (.newarray .int, 2) := by decide +kernel
theorem dL_law_46 : decode cL_law 46 = .ok (.astore 4, 2) := by decide +kernel
theorem dL_law_48 : decode cL_law 48 = .ok (.iconst 0, 1) := by decide +kernel
theorem dL_law_49 : decode cL_law 49 = .ok (.istore 5, 2) := by decide +kernel
theorem dL_law_51 : decode cL_law 51 = .ok (.iconst 0, 1) := by decide +kernel
theorem dL_law_52 : decode cL_law 52 = .ok (.istore 6, 2) := by decide +kernel
theorem dL_law_54 : decode cL_law 54 = .ok (.iload 6, 2) := by decide +kernel
theorem dL_law_56 : decode cL_law 56 = .ok (.iload_n 3, 1) := by decide +kernel
theorem dL_law_57 : decode cL_law 57 = .ok (.if_icmp .ge 247, 3) := by decide +kernel
theorem dL_law_60 : decode cL_law 60 = .ok (.aload 4, 2) := by decide +kernel
theorem dL_law_62 : decode cL_law 62 = .ok (.iload 6, 2) := by decide +kernel
theorem dL_law_64 : decode cL_law 64 = .ok (.aload_n 1, 1) := by decide +kernel
theorem dL_law_65 : decode cL_law 65 = .ok (.iload 6, 2) := by decide +kernel
theorem dL_law_67 : decode cL_law 67 = .ok (.iconst 0, 1) := by decide +kernel
theorem dL_law_68 : decode cL_law 68 = .ok (.invokevirtual 15, 3) := by decide +kernel
theorem dL_law_71 : decode cL_law 71 = .ok (.iastore, 1) := by decide +kernel
theorem dL_law_72 : decode cL_law 72 = .ok (.aload_n 1, 1) := by decide +kernel
theorem dL_law_73 : decode cL_law 73 = .ok (.iload 6, 2) := by decide +kernel
theorem dL_law_75 : decode cL_law 75 = .ok (.iconst 5, 1) := by decide +kernel
theorem dL_law_76 : decode cL_law 76 = .ok (.invokevirtual 15, 3) := by decide +kernel
theorem dL_law_79 : decode cL_law 79 = .ok (.iconst 1, 1) := by decide +kernel
theorem dL_law_80 : decode cL_law 80 = .ok (.if_icmp .ne 7, 3) := by decide +kernel
theorem dL_law_83 : decode cL_law 83 = .ok (.iconst 1, 1) := by decide +kernel
theorem dL_law_84 : decode cL_law 84 = .ok (.goto 4, 3) := by decide +kernel
theorem dL_law_87 : decode cL_law 87 = .ok (.iconst 0, 1) := by decide +kernel
theorem dL_law_88 : decode cL_law 88 = .ok (.istore 7, 2) := by decide +kernel
theorem dL_law_90 : decode cL_law 90 = .ok (.iload 5, 2) := by decide +kernel
theorem dL_law_92 : decode cL_law 92 = .ok (.iload 7, 2) := by decide +kernel
theorem dL_law_94 : decode cL_law 94 = .ok (.ifCond .eq 7, 3) := by decide +kernel
theorem dL_law_97 : decode cL_law 97 = .ok (.iconst 1, 1) := by decide +kernel
theorem dL_law_98 : decode cL_law 98 = .ok (.goto 4, 3) := by decide +kernel
theorem dL_law_101 : decode cL_law 101 = .ok (.iconst 0, 1) := by decide +kernel
theorem dL_law_102 : decode cL_law 102 = .ok (.iadd, 1) := by decide +kernel
theorem dL_law_103 : decode cL_law 103 = .ok (.istore 5, 2) := by decide +kernel
theorem dL_law_105 : decode cL_law 105 = .ok (.aload_n 1, 1) := by decide +kernel
theorem dL_law_106 : decode cL_law 106 = .ok (.iload 6, 2) := by decide +kernel
theorem dL_law_108 : decode cL_law 108 = .ok (.invokevirtual 69, 3) := by decide +kernel
theorem dL_law_111 : decode cL_law 111 = .ok (.iload 7, 2) := by decide +kernel
theorem dL_law_113 : decode cL_law 113 = .ok (.ifCond .eq 7, 3) := by decide +kernel
theorem dL_law_116 : decode cL_law 116 = .ok (.iconst 0, 1) := by decide +kernel
theorem dL_law_117 : decode cL_law 117 = .ok (.goto 31, 3) := by decide +kernel
theorem dL_law_120 : decode cL_law 120 = .ok (.aload 4, 2) := by decide +kernel
theorem dL_law_122 : decode cL_law 122 = .ok (.iload 6, 2) := by decide +kernel
theorem dL_law_124 : decode cL_law 124 = .ok (.iaload, 1) := by decide +kernel
theorem dL_law_125 : decode cL_law 125 = .ok (.ifCond .ne 7, 3) := by decide +kernel
theorem dL_law_128 : decode cL_law 128 = .ok (.iconst 1, 1) := by decide +kernel
theorem dL_law_129 : decode cL_law 129 = .ok (.goto 19, 3) := by decide +kernel
theorem dL_law_132 : decode cL_law 132 = .ok (.aload 4, 2) := by decide +kernel
theorem dL_law_134 : decode cL_law 134 = .ok (.iload 6, 2) := by decide +kernel
theorem dL_law_136 : decode cL_law 136 = .ok (.iaload, 1) := by decide +kernel
theorem dL_law_137 : decode cL_law 137 = .ok (.iconst 1, 1) := by decide +kernel
theorem dL_law_138 : decode cL_law 138 = .ok (.if_icmp .ne 7, 3) := by decide +kernel
theorem dL_law_141 : decode cL_law 141 = .ok (.iload_n 2, 1) := by decide +kernel
theorem dL_law_142 : decode cL_law 142 = .ok (.goto 6, 3) := by decide +kernel
theorem dL_law_145 : decode cL_law 145 = .ok (.iload_n 2, 1) := by decide +kernel
theorem dL_law_146 : decode cL_law 146 = .ok (.iconst 1, 1) := by decide +kernel
theorem dL_law_147 : decode cL_law 147 = .ok (.iadd, 1) := by decide +kernel
theorem dL_law_148 : decode cL_law 148 = .ok (.if_icmp .eq 5, 3) := by decide +kernel
theorem dL_law_151 : decode cL_law 151 = .ok (.iconst 0, 1) := by decide +kernel
theorem dL_law_152 : decode cL_law 152 = .ok (.ireturn, 1) := by decide +kernel
theorem dL_law_153 : decode cL_law 153 = .ok (.aload_n 1, 1) := by decide +kernel
theorem dL_law_154 : decode cL_law 154 = .ok (.iload 6, 2) := by decide +kernel
theorem dL_law_156 : decode cL_law 156 = .ok (.iconst 1, 1) := by decide +kernel
theorem dL_law_157 : decode cL_law 157 = .ok (.invokevirtual 15, 3) := by decide +kernel
theorem dL_law_160 : decode cL_law 160 = .ok (.istore 8, 2) := by decide +kernel
theorem dL_law_162 : decode cL_law 162 = .ok (.iconst 2, 1) := by decide +kernel
theorem dL_law_163 : decode cL_law 163 = .ok (.istore 9, 2) := by decide +kernel
theorem dL_law_165 : decode cL_law 165 = .ok (.iload 9, 2) := by decide +kernel
theorem dL_law_167 : decode cL_law 167 = .ok (.iconst 5, 1) := by decide +kernel
theorem dL_law_168 : decode cL_law 168 = .ok (.if_icmp .ge 49, 3) := by decide +kernel
theorem dL_law_171 : decode cL_law 171 = .ok (.aload_n 1, 1) := by decide +kernel
theorem dL_law_172 : decode cL_law 172 = .ok (.iload 6, 2) := by decide +kernel
theorem dL_law_174 : decode cL_law 174 = .ok (.iload 9, 2) := by decide +kernel
theorem dL_law_176 : decode cL_law 176 = .ok (.invokevirtual 15, 3) := by decide +kernel
theorem dL_law_179 : decode cL_law 179 = .ok (.istore 10, 2) := by decide +kernel
theorem dL_law_181 : decode cL_law 181 = .ok (.iload 10, 2) := by decide +kernel
theorem dL_law_183 : decode cL_law 183 = .ok (.iload 6, 2) := by decide +kernel
theorem dL_law_185 : decode cL_law 185 = .ok (.if_icmp .ge 24, 3) := by decide +kernel
theorem dL_law_188 : decode cL_law 188 = .ok (.iload 10, 2) := by decide +kernel
theorem dL_law_190 : decode cL_law 190 = .ok (.ifCond .lt 21, 3) := by decide +kernel
theorem dL_law_193 : decode cL_law 193 = .ok (.aload_n 1, 1) := by decide +kernel
theorem dL_law_194 : decode cL_law 194 = .ok (.iload 10, 2) := by decide +kernel
theorem dL_law_196 : decode cL_law 196 = .ok (.iconst 5, 1) := by decide +kernel
theorem dL_law_197 : decode cL_law 197 = .ok (.invokevirtual 15, 3) := by decide +kernel
theorem dL_law_200 : decode cL_law 200 = .ok (.iconst 1, 1) := by decide +kernel
theorem dL_law_201 : decode cL_law 201 = .ok (.if_icmp .ne 10, 3) := by decide +kernel
theorem dL_law_204 : decode cL_law 204 = .ok (.iload 7, 2) := by decide +kernel
theorem dL_law_206 : decode cL_law 206 = .ok (.ifCond .ne 5, 3) := by decide +kernel
theorem dL_law_209 : decode cL_law 209 = .ok (.iconst 0, 1) := by decide +kernel
theorem dL_law_210 : decode cL_law 210 = .ok (.ireturn, 1) := by decide +kernel
theorem dL_law_211 : decode cL_law 211 = .ok (.iinc 9 1, 3) := by decide +kernel
theorem dL_law_214 : decode cL_law 214 = .ok (.goto (-49), 3) := by decide +kernel
theorem dL_law_217 : decode cL_law 217 = .ok (.iload 7, 2) := by decide +kernel
theorem dL_law_219 : decode cL_law 219 = .ok (.ifCond .ne 79, 3) := by decide +kernel
theorem dL_law_222 : decode cL_law 222 = .ok (.iload 8, 2) := by decide +kernel
theorem dL_law_224 : decode cL_law 224 = .ok (.iconst 2, 1) := by decide +kernel
theorem dL_law_225 : decode cL_law 225 = .ok (.if_icmp .lt 73, 3) := by decide +kernel
theorem dL_law_228 : decode cL_law 228 = .ok (.iload 8, 2) := by decide +kernel
theorem dL_law_230 : decode cL_law 230 = .ok (.bipush 6, 2) := by decide +kernel
theorem dL_law_232 : decode cL_law 232 = .ok (.if_icmp .le 6, 3) := by decide +kernel
theorem dL_law_235 : decode cL_law 235 = .ok (.goto 63, 3) := by decide +kernel
theorem dL_law_238 : decode cL_law 238 = .ok (.aload_n 1, 1) := by decide +kernel
theorem dL_law_239 : decode cL_law 239 = .ok (.iload_n 2, 1) := by decide +kernel
theorem dL_law_240 : decode cL_law 240 = .ok (.aload_n 1, 1) := by decide +kernel
theorem dL_law_241 : decode cL_law 241 = .ok (.iload 6, 2) := by decide +kernel
theorem dL_law_243 : decode cL_law 243 = .ok (.iconst 2, 1) := by decide +kernel
theorem dL_law_244 : decode cL_law 244 = .ok (.invokevirtual 15, 3) := by decide +kernel
theorem dL_law_247 : decode cL_law 247 = .ok (.aload_n 1, 1) := by decide +kernel
theorem dL_law_248 : decode cL_law 248 = .ok (.iload 6, 2) := by decide +kernel
theorem dL_law_250 : decode cL_law 250 = .ok (.iconst 0, 1) := by decide +kernel
theorem dL_law_251 : decode cL_law 251 = .ok (.invokevirtual 9, 3) := by decide +kernel
theorem dL_law_254 : decode cL_law 254 = .ok (.aload_n 1, 1) := by decide +kernel
theorem dL_law_255 : decode cL_law 255 = .ok (.iload 6, 2) := by decide +kernel
theorem dL_law_257 : decode cL_law 257 = .ok (.iconst 1, 1) := by decide +kernel
theorem dL_law_258 : decode cL_law 258 = .ok (.invokevirtual 9, 3) := by decide +kernel
theorem dL_law_261 : decode cL_law 261 = .ok (.invokestatic 24, 3) := by decide +kernel
theorem dL_law_264 : decode cL_law 264 = .ok (.ifCond .eq 32, 3) := by decide +kernel
theorem dL_law_267 : decode cL_law 267 = .ok (.aload_n 1, 1) := by decide +kernel
theorem dL_law_268 : decode cL_law 268 = .ok (.iload_n 2, 1) := by decide +kernel
theorem dL_law_269 : decode cL_law 269 = .ok (.aload_n 1, 1) := by decide +kernel
theorem dL_law_270 : decode cL_law 270 = .ok (.iload 6, 2) := by decide +kernel
theorem dL_law_272 : decode cL_law 272 = .ok (.iconst 3, 1) := by decide +kernel
theorem dL_law_273 : decode cL_law 273 = .ok (.invokevirtual 15, 3) := by decide +kernel
theorem dL_law_276 : decode cL_law 276 = .ok (.aload_n 1, 1) := by decide +kernel
theorem dL_law_277 : decode cL_law 277 = .ok (.iload 6, 2) := by decide +kernel
theorem dL_law_279 : decode cL_law 279 = .ok (.iconst 0, 1) := by decide +kernel
theorem dL_law_280 : decode cL_law 280 = .ok (.invokevirtual 9, 3) := by decide +kernel
theorem dL_law_283 : decode cL_law 283 = .ok (.aload_n 1, 1) := by decide +kernel
theorem dL_law_284 : decode cL_law 284 = .ok (.iload 6, 2) := by decide +kernel
theorem dL_law_286 : decode cL_law 286 = .ok (.iconst 1, 1) := by decide +kernel
theorem dL_law_287 : decode cL_law 287 = .ok (.invokevirtual 9, 3) := by decide +kernel
theorem dL_law_290 : decode cL_law 290 = .ok (.invokestatic 24, 3) := by decide +kernel
theorem dL_law_293 : decode cL_law 293 = .ok (.ifCond .ne 5, 3) := by decide +kernel
theorem dL_law_296 : decode cL_law 296 = .ok (.iconst 0, 1) := by decide +kernel
theorem dL_law_297 : decode cL_law 297 = .ok (.ireturn, 1) := by decide +kernel
theorem dL_law_298 : decode cL_law 298 = .ok (.iinc 6 1, 3) := by decide +kernel
theorem dL_law_301 : decode cL_law 301 = .ok (.goto (-247), 3) := by decide +kernel
