theorem dX8_make_193 : decode cX8_make 193 = .ok (.aload 8, 2) := by decide +kernel
theorem dX8_make_195 : decode cX8_make 195 = .ok (.getfield 137, 3) := by decide +kernel
theorem dX8_make_198 : decode cX8_make 198 = .ok (.ireturn, 1) := by decide +kernel
set_option maxRecDepth 20000 in
theorem ggX8_move_X6_has : GoodIn wsX8_move wsX6_has := goodIn_r _ [14, 15, 200, 201, 202] rfl (by decide +kernel)
set_option maxRecDepth 20000 in
theorem gX8_move_X6_has : GoodIn wsX8_move (wsV RX8 100 RX6 yX6_has wsX6_has) := goodIn_app (goodIn_of _ (by decide +kernel)) ggX8_move_X6_has
set_option maxRecDepth 20000 in
theorem ggX8_move_X6_at : GoodIn wsX8_move wsX6_at := goodIn_r _ [19, 15, 20, 21, 200, 201, 202] rfl (by decide +kernel)
set_option maxRecDepth 20000 in
theorem gX8_move_X6_at : GoodIn wsX8_move (wsV RX8 103 RX6 yX6_at wsX6_at) := goodIn_app (goodIn_of _ (by decide +kernel)) ggX8_move_X6_at
set_option maxRecDepth 20000 in
theorem ggX8_move_X3_has : GoodIn wsX8_move wsX3_has := goodIn_r _ [26, 27, 203, 204, 205] rfl (by decide +kernel)
set_option maxRecDepth 20000 in
theorem gX8_move_X3_has : GoodIn wsX8_move (wsV RX8 71 RX3 yX3_has wsX3_has) := goodIn_app (goodIn_of _ (by decide +kernel)) ggX8_move_X3_has
set_option maxRecDepth 20000 in
theorem ggX8_move_X6_markFollowers : GoodIn wsX8_move wsX6_markFollowers := goodIn_r _ [31, 15, 32, 33, 34, 35, 36, 37, 17, 18, 13, 19, 20, 21, 200, 201, 202, 187, 188, 189, 190, 191, 192, 193, 194, 195, 196, 197, 198, 199] rfl (by decide +kernel)
set_option maxRecDepth 20000 in
theorem gX8_move_X6_markFollowers : GoodIn wsX8_move (wsV RX8 171 RX6 yX6_markFollowers wsX6_markFollowers) := goodIn_app (goodIn_of _ (by decide +kernel)) ggX8_move_X6_markFollowers
set_option maxRecDepth 20000 in
theorem ggX8_move_X6_wantAll : GoodIn wsX8_move wsX6_wantAll := goodIn_r _ [41, 42, 43, 44, 13, 45, 15, 46, 37, 17, 18, 19, 20, 21, 200, 201, 202, 187, 188, 189, 190, 191, 192, 193, 194, 195, 196, 197, 198, 199] rfl (by decide +kernel)
set_option maxRecDepth 20000 in
theorem gX8_move_X6_wantAll : GoodIn wsX8_move (wsV RX8 174 RX6 yX6_wantAll wsX6_wantAll) := goodIn_app (goodIn_of _ (by decide +kernel)) ggX8_move_X6_wantAll
set_option maxRecDepth 20000 in
theorem ggX8_move_X8_shift : GoodIn wsX8_move wsX8_shift := goodIn_r _ [51, 52, 7, 53, 54, 55, 56, 57, 58, 59, 60, 61, 62, 16, 17, 18, 13, 19, 15, 20, 21, 63, 64, 65, 50, 66, 67, 68, 69, 70, 71, 72, 73, 74, 75, 76, 77, 78, 79, 80, 81, 82, 83, 84, 85, 86, 87, 88, 89, 90, 25, 91, 27, 92, 93, 94, 95, 96, 97, 98, 99, 100, 101, 102, 103, 104, 105, 106, 107, 108, 109, 110, 111, 112, 113, 114, 115, 116, 117, 118, 119, 120, 121, 122, 123, 124, 125, 126, 127, 128, 129, 130, 131, 132, 133, 134, 135, 136, 137, 138, 139, 140, 141, 142, 143, 144, 145, 146, 147, 148, 149, 150, 151, 152, 153, 154, 155, 156, 157, 158, 159, 160, 161, 162, 163, 164, 165, 166, 167, 168, 169, 170, 171, 172, 173, 174, 175, 187, 188, 189, 190, 191, 192, 193, 194, 195, 196, 197, 198, 199, 181, 182, 183, 184, 185, 186, 200, 201, 202, 206, 207, 203, 204, 205] rfl (by decide +kernel)
set_option maxRecDepth 20000 in
theorem gX8_move_X8_shift : GoodIn wsX8_move (wsV RX8 177 RX8 yX8_shift wsX8_shift) := goodIn_app (goodIn_of _ (by decide +kernel)) ggX8_move_X8_shift
set_option maxRecDepth 20000 in
theorem ggX8_move_X6_lackingOnes : GoodIn wsX8_move wsX6_lackingOnes := goodIn_r _ [179, 15, 180, 37, 17, 18, 13, 19, 20, 21, 200, 201, 202, 187, 188, 189, 190, 191, 192, 193, 194, 195, 196, 197, 198, 199] rfl (by decide +kernel)
set_option maxRecDepth 20000 in
theorem gX8_move_X6_lackingOnes : GoodIn wsX8_move (wsV RX8 92 RX6 yX6_lackingOnes wsX6_lackingOnes) := goodIn_app (goodIn_of _ (by decide +kernel)) ggX8_move_X6_lackingOnes
theorem dX8_move_0 : decode cX8_move 0 = .ok (.aload_n 0, 1) := by decide +kernel
theorem dX8_move_1 : decode cX8_move 1 = .ok (.getfield 31, 3) := by decide +kernel
theorem dX8_move_4 : decode cX8_move 4 = .ok (.iload_n 1, 1) := by decide +kernel
theorem dX8_move_5 : decode cX8_move 5 = .ok (.invokevirtual 100, 3) := by decide +kernel
theorem dX8_move_8 : decode cX8_move 8 = .ok (.ifCond .ne 13, 3) := by decide +kernel
theorem dX8_move_11 : decode cX8_move 11 = .ok (.new 95, 3) := by decide +kernel
theorem dX8_move_14 : decode cX8_move 14 = .ok (.dup, 1) := by decide +kernel
theorem dX8_move_15 : decode cX8_move 15 = .ok (.ldc 164, 2) := by decide +kernel
theorem dX8_move_17 : decode cX8_move 17 = .ok (.invokespecial 99, 3) := by decide +kernel
theorem dX8_move_20 : decode cX8_move 20 = .ok (.athrow, 1) := by decide +kernel
theorem dX8_move_21 : decode cX8_move 21 = .ok (.aload_n 0, 1) := by decide +kernel
theorem dX8_move_22 : decode cX8_move 22 = .ok (.getfield 31, 3) := by decide +kernel
theorem dX8_move_25 : decode cX8_move 25 = .ok (.iload_n 1, 1) := by decide +kernel
theorem dX8_move_26 : decode cX8_move 26 = .ok (.invokevirtual 103, 3) := by decide +kernel
theorem dX8_move_29 : decode cX8_move 29 = .ok (.astore 4, 2) := by decide +kernel
theorem dX8_move_31 : decode cX8_move 31 = .ok (.aload_n 0, 1) := by decide +kernel
theorem dX8_move_32 : decode cX8_move 32 = .ok (.getfield 27, 3) := by decide +kernel
theorem dX8_move_35 : decode cX8_move 35 = .ok (.iload_n 2, 1) := by decide +kernel
theorem dX8_move_36 : decode cX8_move 36 = .ok (.invokevirtual 71, 3) := by decide +kernel
theorem dX8_move_39 : decode cX8_move 39 = .ok (.ifCond .eq 22, 3) := by decide +kernel
theorem dX8_move_42 : decode cX8_move 42 = .ok (.aload 4, 2) := by decide +kernel
theorem dX8_move_44 : decode cX8_move 44 = .ok (.getfield 166, 3) := by decide +kernel
theorem dX8_move_47 : decode cX8_move 47 = .ok (.ifCond .ne 24, 3) := by decide +kernel
theorem dX8_move_50 : decode cX8_move 50 = .ok (.aload_n 0, 1) := by decide +kernel
theorem dX8_move_51 : decode cX8_move 51 = .ok (.getfield 27, 3) := by decide +kernel
theorem dX8_move_54 : decode cX8_move 54 = .ok (.iload_n 3, 1) := by decide +kernel
theorem dX8_move_55 : decode cX8_move 55 = .ok (.invokevirtual 71, 3) := by decide +kernel
theorem dX8_move_58 : decode cX8_move 58 = .ok (.ifCond .ne 13, 3) := by decide +kernel
theorem dX8_move_61 : decode cX8_move 61 = .ok (.new 59, 3) := by decide +kernel
theorem dX8_move_64 : decode cX8_move 64 = .ok (.dup, 1) := by decide +kernel
theorem dX8_move_65 : decode cX8_move 65 = .ok (.ldc 114, 2) := by decide +kernel
theorem dX8_move_67 : decode cX8_move 67 = .ok (.invokespecial 63, 3) := by decide +kernel
theorem dX8_move_70 : decode cX8_move 70 = .ok (.athrow, 1) := by decide +kernel
theorem dX8_move_71 : decode cX8_move 71 = .ok (.aload 4, 2) := by decide +kernel
theorem dX8_move_73 : decode cX8_move 73 = .ok (.getfield 166, 3) := by decide +kernel
theorem dX8_move_76 : decode cX8_move 76 = .ok (.ifCond .eq 22, 3) := by decide +kernel
theorem dX8_move_79 : decode cX8_move 79 = .ok (.aload 4, 2) := by decide +kernel
theorem dX8_move_81 : decode cX8_move 81 = .ok (.getfield 166, 3) := by decide +kernel
theorem dX8_move_84 : decode cX8_move 84 = .ok (.iconst 1, 1) := by decide +kernel
theorem dX8_move_85 : decode cX8_move 85 = .ok (.if_icmp .eq 13, 3) := by decide +kernel
theorem dX8_move_88 : decode cX8_move 88 = .ok (.new 116, 3) := by decide +kernel
theorem dX8_move_91 : decode cX8_move 91 = .ok (.dup, 1) := by decide +kernel
theorem dX8_move_92 : decode cX8_move 92 = .ok (.ldc 169, 2) := by decide +kernel
theorem dX8_move_94 : decode cX8_move 94 = .ok (.invokespecial 120, 3) := by decide +kernel
theorem dX8_move_97 : decode cX8_move 97 = .ok (.athrow, 1) := by decide +kernel
theorem dX8_move_98 : decode cX8_move 98 = .ok (.aload_n 0, 1) := by decide +kernel
theorem dX8_move_99 : decode cX8_move 99 = .ok (.getfield 31, 3) := by decide +kernel
theorem dX8_move_102 : decode cX8_move 102 = .ok (.aload 4, 2) := by decide +kernel
theorem dX8_move_104 : decode cX8_move 104 = .ok (.invokevirtual 171, 3) := by decide +kernel
theorem dX8_move_107 : decode cX8_move 107 = .ok (.aload_n 0, 1) := by decide +kernel
theorem dX8_move_108 : decode cX8_move 108 = .ok (.getfield 31, 3) := by decide +kernel
theorem dX8_move_111 : decode cX8_move 111 = .ok (.invokevirtual 174, 3) := by decide +kernel
theorem dX8_move_114 : decode cX8_move 114 = .ok (.aload_n 0, 1) := by decide +kernel
theorem dX8_move_115 : decode cX8_move 115 = .ok (.aload 4, 2) := by decide +kernel
theorem dX8_move_117 : decode cX8_move 117 = .ok (.iload_n 2, 1) := by decide +kernel
theorem dX8_move_118 : decode cX8_move 118 = .ok (.iload_n 3, 1) := by decide +kernel
theorem dX8_move_119 : decode cX8_move 119 = .ok (.invokevirtual 177, 3) := by decide +kernel
theorem dX8_move_122 : decode cX8_move 122 = .ok (.aload_n 0, 1) := by decide +kernel
theorem dX8_move_123 : decode cX8_move 123 = .ok (.getfield 31, 3) := by decide +kernel
theorem dX8_move_126 : decode cX8_move 126 = .ok (.invokevirtual 92, 3) := by decide +kernel
theorem dX8_move_129 : decode cX8_move 129 = .ok (.ireturn, 1) := by decide +kernel
set_option maxRecDepth 20000 in
theorem ggX8_object_X6_has : GoodIn wsX8_object wsX6_has := goodIn_r _ [8, 9, 36, 37, 38] rfl (by decide +kernel)
set_option maxRecDepth 20000 in
theorem gX8_object_X6_has : GoodIn wsX8_object (wsV RX8 100 RX6 yX6_has wsX6_has) := goodIn_app (goodIn_of _ (by decide +kernel)) ggX8_object_X6_has
set_option maxRecDepth 20000 in
theorem ggX8_object_X6_at : GoodIn wsX8_object wsX6_at := goodIn_r _ [13, 9, 14, 15, 36, 37, 38] rfl (by decide +kernel)
set_option maxRecDepth 20000 in
theorem gX8_object_X6_at : GoodIn wsX8_object (wsV RX8 103 RX6 yX6_at wsX6_at) := goodIn_app (goodIn_of _ (by decide +kernel)) ggX8_object_X6_at
set_option maxRecDepth 20000 in
theorem ggX8_object_X4_feature : GoodIn wsX8_object wsX4_feature := goodIn_r _ [20, 21, 22, 23, 24, 25, 26, 27, 28, 19, 29, 39, 40, 41, 42, 43, 44, 45, 46, 47, 48, 49, 50, 51] rfl (by decide +kernel)
set_option maxRecDepth 20000 in
theorem gX8_object_X4_feature : GoodIn wsX8_object (wsV RX8 183 RX4 yX4_feature wsX4_feature) := goodIn_app (goodIn_of _ (by decide +kernel)) ggX8_object_X4_feature
theorem dX8_object_0 : decode cX8_object 0 = .ok (.aload_n 0, 1) := by decide +kernel
theorem dX8_object_1 : decode cX8_object 1 = .ok (.getfield 31, 3) := by decide +kernel
theorem dX8_object_4 : decode cX8_object 4 = .ok (.iload_n 1, 1) := by decide +kernel
theorem dX8_object_5 : decode cX8_object 5 = .ok (.invokevirtual 100, 3) := by decide +kernel
theorem dX8_object_8 : decode cX8_object 8 = .ok (.ifCond .eq 12, 3) := by decide +kernel
theorem dX8_object_11 : decode cX8_object 11 = .ok (.iload_n 2, 1) := by decide +kernel
theorem dX8_object_12 : decode cX8_object 12 = .ok (.ifCond .lt 8, 3) := by decide +kernel
theorem dX8_object_15 : decode cX8_object 15 = .ok (.iload_n 2, 1) := by decide +kernel
theorem dX8_object_16 : decode cX8_object 16 = .ok (.iconst 5, 1) := by decide +kernel
theorem dX8_object_17 : decode cX8_object 17 = .ok (.if_icmp .le 13, 3) := by decide +kernel
theorem dX8_object_20 : decode cX8_object 20 = .ok (.new 95, 3) := by decide +kernel
theorem dX8_object_23 : decode cX8_object 23 = .ok (.dup, 1) := by decide +kernel
theorem dX8_object_24 : decode cX8_object 24 = .ok (.ldc 181, 2) := by decide +kernel
theorem dX8_object_26 : decode cX8_object 26 = .ok (.invokespecial 99, 3) := by decide +kernel
theorem dX8_object_29 : decode cX8_object 29 = .ok (.athrow, 1) := by decide +kernel
theorem dX8_object_30 : decode cX8_object 30 = .ok (.aload_n 0, 1) := by decide +kernel
theorem dX8_object_31 : decode cX8_object 31 = .ok (.getfield 31, 3) := by decide +kernel
theorem dX8_object_34 : decode cX8_object 34 = .ok (.iload_n 1, 1) := by decide +kernel
theorem dX8_object_35 : decode cX8_object 35 = .ok (.invokevirtual 103, 3) := by decide +kernel
theorem dX8_object_38 : decode cX8_object 38 = .ok (.iload_n 2, 1) := by decide +kernel
theorem dX8_object_39 : decode cX8_object 39 = .ok (.invokevirtual 183, 3) := by decide +kernel
theorem dX8_object_42 : decode cX8_object 42 = .ok (.ireturn, 1) := by decide +kernel
set_option maxRecDepth 20000 in
theorem ggX8_number_X6_has : GoodIn wsX8_number wsX6_has := goodIn_r _ [14, 15, 41, 42, 43] rfl (by decide +kernel)
set_option maxRecDepth 20000 in
theorem gX8_number_X6_has : GoodIn wsX8_number (wsV RX8 100 RX6 yX6_has wsX6_has) := goodIn_app (goodIn_of _ (by decide +kernel)) ggX8_number_X6_has
set_option maxRecDepth 20000 in
theorem ggX8_number_X6_at : GoodIn wsX8_number wsX6_at := goodIn_r _ [19, 15, 20, 21, 41, 42, 43] rfl (by decide +kernel)
set_option maxRecDepth 20000 in
theorem gX8_number_X6_at : GoodIn wsX8_number (wsV RX8 103 RX6 yX6_at wsX6_at) := goodIn_app (goodIn_of _ (by decide +kernel)) ggX8_number_X6_at
theorem dX8_number_0 : decode cX8_number 0 = .ok (.aload_n 0, 1) := by decide +kernel
theorem dX8_number_1 : decode cX8_number 1 = .ok (.getfield 31, 3) := by decide +kernel
theorem dX8_number_4 : decode cX8_number 4 = .ok (.iload_n 1, 1) := by decide +kernel
theorem dX8_number_5 : decode cX8_number 5 = .ok (.invokevirtual 100, 3) := by decide +kernel
theorem dX8_number_8 : decode cX8_number 8 = .ok (.ifCond .eq 12, 3) := by decide +kernel
theorem dX8_number_11 : decode cX8_number 11 = .ok (.iload_n 2, 1) := by decide +kernel
theorem dX8_number_12 : decode cX8_number 12 = .ok (.ifCond .lt 8, 3) := by decide +kernel
theorem dX8_number_15 : decode cX8_number 15 = .ok (.iload_n 2, 1) := by decide +kernel
theorem dX8_number_16 : decode cX8_number 16 = .ok (.iconst 2, 1) := by decide +kernel
theorem dX8_number_17 : decode cX8_number 17 = .ok (.if_icmp .le 13, 3) := by decide +kernel
theorem dX8_number_20 : decode cX8_number 20 = .ok (.new 95, 3) := by decide +kernel
theorem dX8_number_23 : decode cX8_number 23 = .ok (.dup, 1) := by decide +kernel
theorem dX8_number_24 : decode cX8_number 24 = .ok (.ldc 186, 2) := by decide +kernel
theorem dX8_number_26 : decode cX8_number 26 = .ok (.invokespecial 99, 3) := by decide +kernel
theorem dX8_number_29 : decode cX8_number 29 = .ok (.athrow, 1) := by decide +kernel
theorem dX8_number_30 : decode cX8_number 30 = .ok (.aload_n 0, 1) := by decide +kernel
theorem dX8_number_31 : decode cX8_number 31 = .ok (.getfield 31, 3) := by decide +kernel
theorem dX8_number_34 : decode cX8_number 34 = .ok (.iload_n 1, 1) := by decide +kernel
theorem dX8_number_35 : decode cX8_number 35 = .ok (.invokevirtual 103, 3) := by decide +kernel
theorem dX8_number_38 : decode cX8_number 38 = .ok (.astore_n 3, 1) := by decide +kernel
theorem dX8_number_39 : decode cX8_number 39 = .ok (.aload_n 3, 1) := by decide +kernel
theorem dX8_number_40 : decode cX8_number 40 = .ok (.getfield 188, 3) := by decide +kernel
theorem dX8_number_43 : decode cX8_number 43 = .ok (.ifCond .eq 13, 3) := by decide +kernel
theorem dX8_number_46 : decode cX8_number 46 = .ok (.new 116, 3) := by decide +kernel
theorem dX8_number_49 : decode cX8_number 49 = .ok (.dup, 1) := by decide +kernel
theorem dX8_number_50 : decode cX8_number 50 = .ok (.ldc 192, 2) := by decide +kernel
theorem dX8_number_52 : decode cX8_number 52 = .ok (.invokespecial 120, 3) := by decide +kernel
theorem dX8_number_55 : decode cX8_number 55 = .ok (.athrow, 1) := by decide +kernel
theorem dX8_number_56 : decode cX8_number 56 = .ok (.iload_n 2, 1) := by decide +kernel
theorem dX8_number_57 : decode cX8_number 57 = .ok (.ifCond .ne 10, 3) := by decide +kernel
theorem dX8_number_60 : decode cX8_number 60 = .ok (.aload_n 3, 1) := by decide +kernel
theorem dX8_number_61 : decode cX8_number 61 = .ok (.getfield 194, 3) := by decide +kernel
theorem dX8_number_64 : decode cX8_number 64 = .ok (.goto 19, 3) := by decide +kernel
theorem dX8_number_67 : decode cX8_number 67 = .ok (.iload_n 2, 1) := by decide +kernel
theorem dX8_number_68 : decode cX8_number 68 = .ok (.iconst 1, 1) := by decide +kernel
theorem dX8_number_69 : decode cX8_number 69 = .ok (.if_icmp .ne 10, 3) := by decide +kernel
theorem dX8_number_72 : decode cX8_number 72 = .ok (.aload_n 3, 1) := by decide +kernel
theorem dX8_number_73 : decode cX8_number 73 = .ok (.getfield 197, 3) := by decide +kernel
theorem dX8_number_76 : decode cX8_number 76 = .ok (.goto 7, 3) := by decide +kernel
theorem dX8_number_79 : decode cX8_number 79 = .ok (.aload_n 3, 1) := by decide +kernel
theorem dX8_number_80 : decode cX8_number 80 = .ok (.getfield 200, 3) := by decide +kernel
theorem dX8_number_83 : decode cX8_number 83 = .ok (.ireturn, 1) := by decide +kernel
set_option maxRecDepth 20000 in
theorem ggX8_places_X6_has : GoodIn wsX8_places wsX6_has := goodIn_r _ [11, 12, 47, 48, 49] rfl (by decide +kernel)
set_option maxRecDepth 20000 in
theorem gX8_places_X6_has : GoodIn wsX8_places (wsV RX8 100 RX6 yX6_has wsX6_has) := goodIn_app (goodIn_of _ (by decide +kernel)) ggX8_places_X6_has
set_option maxRecDepth 20000 in
theorem ggX8_places_X6_at : GoodIn wsX8_places wsX6_at := goodIn_r _ [16, 12, 17, 18, 47, 48, 49] rfl (by decide +kernel)
set_option maxRecDepth 20000 in
theorem gX8_places_X6_at : GoodIn wsX8_places (wsV RX8 103 RX6 yX6_at wsX6_at) := goodIn_app (goodIn_of _ (by decide +kernel)) ggX8_places_X6_at
set_option maxRecDepth 20000 in
theorem ggX8_places_X4_sort : GoodIn wsX8_places wsX4_sort := goodIn_r _ [23, 24, 31, 32, 33, 34, 35, 36, 37, 38, 39, 40, 41, 42, 43] rfl (by decide +kernel)
set_option maxRecDepth 20000 in
theorem gX8_places_X4_sort : GoodIn wsX8_places (wsV RX8 107 RX4 yX4_sort wsX4_sort) := goodIn_app (goodIn_of _ (by decide +kernel)) ggX8_places_X4_sort
theorem dX8_places_0 : decode cX8_places 0 = .ok (.aload_n 0, 1) := by decide +kernel
theorem dX8_places_1 : decode cX8_places 1 = .ok (.getfield 31, 3) := by decide +kernel
theorem dX8_places_4 : decode cX8_places 4 = .ok (.iload_n 1, 1) := by decide +kernel
theorem dX8_places_5 : decode cX8_places 5 = .ok (.invokevirtual 100, 3) := by decide +kernel
theorem dX8_places_8 : decode cX8_places 8 = .ok (.ifCond .ne 13, 3) := by decide +kernel
theorem dX8_places_11 : decode cX8_places 11 = .ok (.new 95, 3) := by decide +kernel
theorem dX8_places_14 : decode cX8_places 14 = .ok (.dup, 1) := by decide +kernel
theorem dX8_places_15 : decode cX8_places 15 = .ok (.ldc 164, 2) := by decide +kernel
theorem dX8_places_17 : decode cX8_places 17 = .ok (.invokespecial 99, 3) := by decide +kernel
theorem dX8_places_20 : decode cX8_places 20 = .ok (.athrow, 1) := by decide +kernel
theorem dX8_places_21 : decode cX8_places 21 = .ok (.aload_n 0, 1) := by decide +kernel
theorem dX8_places_22 : decode cX8_places 22 = .ok (.getfield 31, 3) := by decide +kernel
theorem dX8_places_25 : decode cX8_places 25 = .ok (.iload_n 1, 1) := by decide +kernel
theorem dX8_places_26 : decode cX8_places 26 = .ok (.invokevirtual 103, 3) := by decide +kernel
theorem dX8_places_29 : decode cX8_places 29 = .ok (.astore_n 2, 1) := by decide +kernel
theorem dX8_places_30 : decode cX8_places 30 = .ok (.aload_n 2, 1) := by decide +kernel
theorem dX8_places_31 : decode cX8_places 31 = .ok (.getfield 188, 3) := by decide +kernel
theorem dX8_places_34 : decode cX8_places 34 = .ok (.ifCond .eq 5, 3) := by decide +kernel
theorem dX8_places_37 : decode cX8_places 37 = .ok (.iconst 0, 1) := by decide +kernel
theorem dX8_places_38 : decode cX8_places 38 = .ok (.ireturn, 1) := by decide +kernel
theorem dX8_places_39 : decode cX8_places 39 = .ok (.aload_n 2, 1) := by decide +kernel
theorem dX8_places_40 : decode cX8_places 40 = .ok (.invokevirtual 107, 3) := by decide +kernel
theorem dX8_places_43 : decode cX8_places 43 = .ok (.lookupswitch 35 #[(0, 25), (1, 27)], 25) := by decide +kernel
theorem dX8_places_68 : decode cX8_places 68 = .ok (.iconst 1, 1) := by decide +kernel
theorem dX8_places_69 : decode cX8_places 69 = .ok (.ireturn, 1) := by decide +kernel
theorem dX8_places_70 : decode cX8_places 70 = .ok (.aload_n 0, 1) := by decide +kernel
theorem dX8_places_71 : decode cX8_places 71 = .ok (.getfield 27, 3) := by decide +kernel
theorem dX8_places_74 : decode cX8_places 74 = .ok (.getfield 85, 3) := by decide +kernel
theorem dX8_places_77 : decode cX8_places 77 = .ok (.ireturn, 1) := by decide +kernel
theorem dX8_places_78 : decode cX8_places 78 = .ok (.aload_n 0, 1) := by decide +kernel
theorem dX8_places_79 : decode cX8_places 79 = .ok (.getfield 27, 3) := by decide +kernel
theorem dX8_places_82 : decode cX8_places 82 = .ok (.getfield 85, 3) := by decide +kernel
theorem dX8_places_85 : decode cX8_places 85 = .ok (.iconst 1, 1) := by decide +kernel
theorem dX8_places_86 : decode cX8_places 86 = .ok (.iadd, 1) := by decide +kernel
theorem dX8_places_87 : decode cX8_places 87 = .ok (.ireturn, 1) := by decide +kernel
set_option maxRecDepth 20000 in
theorem ggX8_claim_X8_entry : GoodIn wsX8_claim wsX8_entry := goodIn_r _ [14] rfl (by decide +kernel)
set_option maxRecDepth 20000 in
theorem gX8_claim_X8_entry : GoodIn wsX8_claim (va_wsS RX8 149 yX8_entry wsX8_entry) := goodIn_app (goodIn_of _ (by decide +kernel)) ggX8_claim_X8_entry
set_option maxRecDepth 20000 in
theorem ggX8_claim_X8_isThere : GoodIn wsX8_claim wsX8_isThere := goodIn_r _ [18, 8, 19, 20, 21, 22, 23, 24, 63, 64, 65, 66, 67, 68, 72, 73, 74] rfl (by decide +kernel)
set_option maxRecDepth 20000 in
theorem gX8_claim_X8_isThere : GoodIn wsX8_claim (wsV RX8 153 RX8 yX8_isThere wsX8_isThere) := goodIn_app (goodIn_of _ (by decide +kernel)) ggX8_claim_X8_isThere
set_option maxRecDepth 20000 in
theorem ggX8_claim_X8_fits : GoodIn wsX8_claim wsX8_fits := goodIn_r _ [28, 8, 29, 30, 31, 22, 32, 24, 33, 34, 35, 36, 37, 38, 39, 40, 63, 64, 65, 66, 67, 68, 72, 73, 74, 75, 76, 77, 78, 79, 80, 81, 82, 83, 84, 85, 86, 87] rfl (by decide +kernel)
set_option maxRecDepth 20000 in
theorem gX8_claim_X8_fits : GoodIn wsX8_claim (wsV RX8 159 RX8 yX8_fits wsX8_fits) := goodIn_app (goodIn_of _ (by decide +kernel)) ggX8_claim_X8_fits
set_option maxRecDepth 20000 in
theorem ggX8_claim_X6_at : GoodIn wsX8_claim wsX6_at := goodIn_r _ [32, 24, 33, 34, 72, 73, 74] rfl (by decide +kernel)
set_option maxRecDepth 20000 in
theorem gX8_claim_X6_at : GoodIn wsX8_claim (wsV RX8 103 RX6 yX6_at wsX6_at) := goodIn_app (goodIn_of _ (by decide +kernel)) ggX8_claim_X6_at
set_option maxRecDepth 20000 in
theorem ggX8_claim_X4_sort : GoodIn wsX8_claim wsX4_sort := goodIn_r _ [39, 40, 75, 76, 77, 78, 79, 80, 81, 82, 83, 84, 85, 86, 87] rfl (by decide +kernel)
set_option maxRecDepth 20000 in
theorem gX8_claim_X4_sort : GoodIn wsX8_claim (wsV RX8 107 RX4 yX4_sort wsX4_sort) := goodIn_app (goodIn_of _ (by decide +kernel)) ggX8_claim_X4_sort
set_option maxRecDepth 20000 in
theorem ggX8_claim_X1_next : GoodIn wsX8_claim wsX1_next := goodIn_r _ [45, 46, 47, 48, 49, 50, 51, 44, 52, 69, 70, 71] rfl (by decide +kernel)
set_option maxRecDepth 20000 in
theorem gX8_claim_X1_next : GoodIn wsX8_claim (wsV RX8 222 RX1 yX1_next wsX1_next) := goodIn_app (goodIn_of _ (by decide +kernel)) ggX8_claim_X1_next
set_option maxRecDepth 20000 in
theorem ggX8_claim_X0_become : GoodIn wsX8_claim wsX0_become := goodIn_r _ [57, 58, 59, 60, 61, 62, 88, 89, 90, 91, 92] rfl (by decide +kernel)
set_option maxRecDepth 20000 in
theorem gX8_claim_X0_become : GoodIn wsX8_claim (wsV RX8 225 RX0 yX0_become wsX0_become) := goodIn_app (goodIn_of _ (by decide +kernel)) ggX8_claim_X0_become
theorem dX8_claim_0 : decode cX8_claim 0 = .ok (.iload_n 1, 1) := by decide +kernel
theorem dX8_claim_1 : decode cX8_claim 1 = .ok (.ifCond .lt 9, 3) := by decide +kernel
theorem dX8_claim_4 : decode cX8_claim 4 = .ok (.iload_n 1, 1) := by decide +kernel
theorem dX8_claim_5 : decode cX8_claim 5 = .ok (.bipush 7, 2) := by decide +kernel
theorem dX8_claim_7 : decode cX8_claim 7 = .ok (.if_icmp .le 13, 3) := by decide +kernel
theorem dX8_claim_10 : decode cX8_claim 10 = .ok (.new 59, 3) := by decide +kernel
theorem dX8_claim_13 : decode cX8_claim 13 = .ok (.dup, 1) := by decide +kernel
theorem dX8_claim_14 : decode cX8_claim 14 = .ok (.ldc 209, 2) := by decide +kernel
theorem dX8_claim_16 : decode cX8_claim 16 = .ok (.invokespecial 63, 3) := by decide +kernel
theorem dX8_claim_19 : decode cX8_claim 19 = .ok (.athrow, 1) := by decide +kernel
theorem dX8_claim_20 : decode cX8_claim 20 = .ok (.getstatic 211, 3) := by decide +kernel
theorem dX8_claim_23 : decode cX8_claim 23 = .ok (.iconst 4, 1) := by decide +kernel
theorem dX8_claim_24 : decode cX8_claim 24 = .ok (.iload_n 1, 1) := by decide +kernel
theorem dX8_claim_25 : decode cX8_claim 25 = .ok (.imul, 1) := by decide +kernel
theorem dX8_claim_26 : decode cX8_claim 26 = .ok (.invokestatic 149, 3) := by decide +kernel
theorem dX8_claim_29 : decode cX8_claim 29 = .ok (.istore 6, 2) := by decide +kernel
theorem dX8_claim_31 : decode cX8_claim 31 = .ok (.getstatic 211, 3) := by decide +kernel
theorem dX8_claim_34 : decode cX8_claim 34 = .ok (.iconst 4, 1) := by decide +kernel
theorem dX8_claim_35 : decode cX8_claim 35 = .ok (.iload_n 1, 1) := by decide +kernel
theorem dX8_claim_36 : decode cX8_claim 36 = .ok (.imul, 1) := by decide +kernel
theorem dX8_claim_37 : decode cX8_claim 37 = .ok (.iconst 1, 1) := by decide +kernel
theorem dX8_claim_38 : decode cX8_claim 38 = .ok (.iadd, 1) := by decide +kernel
theorem dX8_claim_39 : decode cX8_claim 39 = .ok (.invokestatic 149, 3) := by decide +kernel
theorem dX8_claim_42 : decode cX8_claim 42 = .ok (.istore 7, 2) := by decide +kernel
theorem dX8_claim_44 : decode cX8_claim 44 = .ok (.getstatic 211, 3) := by decide +kernel
theorem dX8_claim_47 : decode cX8_claim 47 = .ok (.iconst 4, 1) := by decide +kernel
theorem dX8_claim_48 : decode cX8_claim 48 = .ok (.iload_n 1, 1) := by decide +kernel
theorem dX8_claim_49 : decode cX8_claim 49 = .ok (.imul, 1) := by decide +kernel
theorem dX8_claim_50 : decode cX8_claim 50 = .ok (.iconst 2, 1) := by decide +kernel
theorem dX8_claim_51 : decode cX8_claim 51 = .ok (.iadd, 1) := by decide +kernel
theorem dX8_claim_52 : decode cX8_claim 52 = .ok (.invokestatic 149, 3) := by decide +kernel
theorem dX8_claim_55 : decode cX8_claim 55 = .ok (.istore 8, 2) := by decide +kernel
theorem dX8_claim_57 : decode cX8_claim 57 = .ok (.getstatic 211, 3) := by decide +kernel
theorem dX8_claim_60 : decode cX8_claim 60 = .ok (.iconst 4, 1) := by decide +kernel
theorem dX8_claim_61 : decode cX8_claim 61 = .ok (.iload_n 1, 1) := by decide +kernel
theorem dX8_claim_62 : decode cX8_claim 62 = .ok (.imul, 1) := by decide +kernel
theorem dX8_claim_63 : decode cX8_claim 63 = .ok (.iconst 3, 1) := by decide +kernel
theorem dX8_claim_64 : decode cX8_claim 64 = .ok (.iadd, 1) := by decide +kernel
theorem dX8_claim_65 : decode cX8_claim 65 = .ok (.invokestatic 149, 3) := by decide +kernel
theorem dX8_claim_68 : decode cX8_claim 68 = .ok (.istore 9, 2) := by decide +kernel
theorem dX8_claim_70 : decode cX8_claim 70 = .ok (.aload_n 0, 1) := by decide +kernel
theorem dX8_claim_71 : decode cX8_claim 71 = .ok (.iload_n 2, 1) := by decide +kernel
theorem dX8_claim_72 : decode cX8_claim 72 = .ok (.iload 6, 2) := by decide +kernel
theorem dX8_claim_74 : decode cX8_claim 74 = .ok (.invokevirtual 153, 3) := by decide +kernel
theorem dX8_claim_77 : decode cX8_claim 77 = .ok (.ifCond .eq 35, 3) := by decide +kernel
theorem dX8_claim_80 : decode cX8_claim 80 = .ok (.aload_n 0, 1) := by decide +kernel
theorem dX8_claim_81 : decode cX8_claim 81 = .ok (.iload_n 3, 1) := by decide +kernel
theorem dX8_claim_82 : decode cX8_claim 82 = .ok (.iload 7, 2) := by decide +kernel
theorem dX8_claim_84 : decode cX8_claim 84 = .ok (.invokevirtual 153, 3) := by decide +kernel
theorem dX8_claim_87 : decode cX8_claim 87 = .ok (.ifCond .eq 25, 3) := by decide +kernel
theorem dX8_claim_90 : decode cX8_claim 90 = .ok (.aload_n 0, 1) := by decide +kernel
theorem dX8_claim_91 : decode cX8_claim 91 = .ok (.iload 4, 2) := by decide +kernel
theorem dX8_claim_93 : decode cX8_claim 93 = .ok (.iload 8, 2) := by decide +kernel
theorem dX8_claim_95 : decode cX8_claim 95 = .ok (.invokevirtual 153, 3) := by decide +kernel
theorem dX8_claim_98 : decode cX8_claim 98 = .ok (.ifCond .eq 14, 3) := by decide +kernel
theorem dX8_claim_101 : decode cX8_claim 101 = .ok (.aload_n 0, 1) := by decide +kernel
theorem dX8_claim_102 : decode cX8_claim 102 = .ok (.iload 5, 2) := by decide +kernel
theorem dX8_claim_104 : decode cX8_claim 104 = .ok (.iload 9, 2) := by decide +kernel
theorem dX8_claim_106 : decode cX8_claim 106 = .ok (.invokevirtual 153, 3) := by decide +kernel
theorem dX8_claim_109 : decode cX8_claim 109 = .ok (.ifCond .ne 13, 3) := by decide +kernel
theorem dX8_claim_112 : decode cX8_claim 112 = .ok (.new 95, 3) := by decide +kernel
theorem dX8_claim_115 : decode cX8_claim 115 = .ok (.dup, 1) := by decide +kernel
theorem dX8_claim_116 : decode cX8_claim 116 = .ok (.ldc 214, 2) := by decide +kernel
theorem dX8_claim_118 : decode cX8_claim 118 = .ok (.invokespecial 99, 3) := by decide +kernel
theorem dX8_claim_121 : decode cX8_claim 121 = .ok (.athrow, 1) := by decide +kernel
theorem dX8_claim_122 : decode cX8_claim 122 = .ok (.aload_n 0, 1) := by decide +kernel
theorem dX8_claim_123 : decode cX8_claim 123 = .ok (.iload_n 2, 1) := by decide +kernel
theorem dX8_claim_124 : decode cX8_claim 124 = .ok (.iload 6, 2) := by decide +kernel
theorem dX8_claim_126 : decode cX8_claim 126 = .ok (.invokevirtual 159, 3) := by decide +kernel
theorem dX8_claim_129 : decode cX8_claim 129 = .ok (.ifCond .eq 35, 3) := by decide +kernel
theorem dX8_claim_132 : decode cX8_claim 132 = .ok (.aload_n 0, 1) := by decide +kernel
theorem dX8_claim_133 : decode cX8_claim 133 = .ok (.iload_n 3, 1) := by decide +kernel
theorem dX8_claim_134 : decode cX8_claim 134 = .ok (.iload 7, 2) := by decide +kernel
theorem dX8_claim_136 : decode cX8_claim 136 = .ok (.invokevirtual 159, 3) := by decide +kernel
theorem dX8_claim_139 : decode cX8_claim 139 = .ok (.ifCond .eq 25, 3) := by decide +kernel
theorem dX8_claim_142 : decode cX8_claim 142 = .ok (.aload_n 0, 1) := by decide +kernel
theorem dX8_claim_143 : decode cX8_claim 143 = .ok (.iload 4, 2) := by decide +kernel
theorem dX8_claim_145 : decode cX8_claim 145 = .ok (.iload 8, 2) := by decide +kernel
theorem dX8_claim_147 : decode cX8_claim 147 = .ok (.invokevirtual 159, 3) := by decide +kernel
theorem dX8_claim_150 : decode cX8_claim 150 = .ok (.ifCond .eq 14, 3) := by decide +kernel
theorem dX8_claim_153 : decode cX8_claim 153 = .ok (.aload_n 0, 1) := by decide +kernel
theorem dX8_claim_154 : decode cX8_claim 154 = .ok (.iload 5, 2) := by decide +kernel
theorem dX8_claim_156 : decode cX8_claim 156 = .ok (.iload 9, 2) := by decide +kernel
theorem dX8_claim_158 : decode cX8_claim 158 = .ok (.invokevirtual 159, 3) := by decide +kernel
theorem dX8_claim_161 : decode cX8_claim 161 = .ok (.ifCond .ne 13, 3) := by decide +kernel
theorem dX8_claim_164 : decode cX8_claim 164 = .ok (.new 116, 3) := by decide +kernel
theorem dX8_claim_167 : decode cX8_claim 167 = .ok (.dup, 1) := by decide +kernel
theorem dX8_claim_168 : decode cX8_claim 168 = .ok (.ldc 216, 2) := by decide +kernel
theorem dX8_claim_170 : decode cX8_claim 170 = .ok (.invokespecial 120, 3) := by decide +kernel
theorem dX8_claim_173 : decode cX8_claim 173 = .ok (.athrow, 1) := by decide +kernel
theorem dX8_claim_174 : decode cX8_claim 174 = .ok (.iload_n 1, 1) := by decide +kernel
theorem dX8_claim_175 : decode cX8_claim 175 = .ok (.bipush 6, 2) := by decide +kernel
theorem dX8_claim_177 : decode cX8_claim 177 = .ok (.if_icmp .ne 38, 3) := by decide +kernel
theorem dX8_claim_180 : decode cX8_claim 180 = .ok (.aload_n 0, 1) := by decide +kernel
theorem dX8_claim_181 : decode cX8_claim 181 = .ok (.getfield 31, 3) := by decide +kernel
theorem dX8_claim_184 : decode cX8_claim 184 = .ok (.iload_n 2, 1) := by decide +kernel
theorem dX8_claim_185 : decode cX8_claim 185 = .ok (.invokevirtual 103, 3) := by decide +kernel
theorem dX8_claim_188 : decode cX8_claim 188 = .ok (.invokevirtual 107, 3) := by decide +kernel
theorem dX8_claim_191 : decode cX8_claim 191 = .ok (.aload_n 0, 1) := by decide +kernel
theorem dX8_claim_192 : decode cX8_claim 192 = .ok (.getfield 31, 3) := by decide +kernel
theorem dX8_claim_195 : decode cX8_claim 195 = .ok (.iload_n 3, 1) := by decide +kernel
theorem dX8_claim_196 : decode cX8_claim 196 = .ok (.invokevirtual 103, 3) := by decide +kernel
theorem dX8_claim_199 : decode cX8_claim 199 = .ok (.invokevirtual 107, 3) := by decide +kernel
theorem dX8_claim_202 : decode cX8_claim 202 = .ok (.if_icmp .eq 13, 3) := by decide +kernel
theorem dX8_claim_205 : decode cX8_claim 205 = .ok (.new 116, 3) := by decide +kernel
theorem dX8_claim_208 : decode cX8_claim 208 = .ok (.dup, 1) := by decide +kernel
theorem dX8_claim_209 : decode cX8_claim 209 = .ok (.ldc 218, 2) := by decide +kernel
theorem dX8_claim_211 : decode cX8_claim 211 = .ok (.invokespecial 120, 3) := by decide +kernel
theorem dX8_claim_214 : decode cX8_claim 214 = .ok (.athrow, 1) := by decide +kernel
theorem dX8_claim_215 : decode cX8_claim 215 = .ok (.aload_n 0, 1) := by decide +kernel
theorem dX8_claim_216 : decode cX8_claim 216 = .ok (.getfield 38, 3) := by decide +kernel
theorem dX8_claim_219 : decode cX8_claim 219 = .ok (.getfield 70, 3) := by decide +kernel
theorem dX8_claim_222 : decode cX8_claim 222 = .ok (.bipush 20, 2) := by decide +kernel
theorem dX8_claim_224 : decode cX8_claim 224 = .ok (.if_icmp .lt 13, 3) := by decide +kernel
theorem dX8_claim_227 : decode cX8_claim 227 = .ok (.new 116, 3) := by decide +kernel
theorem dX8_claim_230 : decode cX8_claim 230 = .ok (.dup, 1) := by decide +kernel
theorem dX8_claim_231 : decode cX8_claim 231 = .ok (.ldc 220, 2) := by decide +kernel
theorem dX8_claim_233 : decode cX8_claim 233 = .ok (.invokespecial 120, 3) := by decide +kernel
theorem dX8_claim_236 : decode cX8_claim 236 = .ok (.athrow, 1) := by decide +kernel
theorem dX8_claim_237 : decode cX8_claim 237 = .ok (.aload_n 0, 1) := by decide +kernel
theorem dX8_claim_238 : decode cX8_claim 238 = .ok (.getfield 38, 3) := by decide +kernel
theorem dX8_claim_241 : decode cX8_claim 241 = .ok (.invokevirtual 222, 3) := by decide +kernel
theorem dX8_claim_244 : decode cX8_claim 244 = .ok (.iload_n 1, 1) := by decide +kernel
theorem dX8_claim_245 : decode cX8_claim 245 = .ok (.iload_n 2, 1) := by decide +kernel
theorem dX8_claim_246 : decode cX8_claim 246 = .ok (.iload_n 3, 1) := by decide +kernel
theorem dX8_claim_247 : decode cX8_claim 247 = .ok (.iload 8, 2) := by decide +kernel
theorem dX8_claim_249 : decode cX8_claim 249 = .ok (.iconst (-1), 1) := by decide +kernel
theorem dX8_claim_250 : decode cX8_claim 250 = .ok (.if_icmp .ne 7, 3) := by decide +kernel
theorem dX8_claim_253 : decode cX8_claim 253 = .ok (.iconst (-1), 1) := by decide +kernel
theorem dX8_claim_254 : decode cX8_claim 254 = .ok (.goto 5, 3) := by decide +kernel
theorem dX8_claim_257 : decode cX8_claim 257 = .ok (.iload 4, 2) := by decide +kernel
theorem dX8_claim_259 : decode cX8_claim 259 = .ok (.iload 9, 2) := by decide +kernel
theorem dX8_claim_261 : decode cX8_claim 261 = .ok (.iconst (-1), 1) := by decide +kernel
theorem dX8_claim_262 : decode cX8_claim 262 = .ok (.if_icmp .ne 7, 3) := by decide +kernel
theorem dX8_claim_265 : decode cX8_claim 265 = .ok (.iconst (-1), 1) := by decide +kernel
theorem dX8_claim_266 : decode cX8_claim 266 = .ok (.goto 5, 3) := by decide +kernel
theorem dX8_claim_269 : decode cX8_claim 269 = .ok (.iload 5, 2) := by decide +kernel
theorem dX8_claim_271 : decode cX8_claim 271 = .ok (.invokevirtual 225, 3) := by decide +kernel
theorem dX8_claim_274 : decode cX8_claim 274 = .ok (.aload_n 0, 1) := by decide +kernel
theorem dX8_claim_275 : decode cX8_claim 275 = .ok (.getfield 38, 3) := by decide +kernel
theorem dX8_claim_278 : decode cX8_claim 278 = .ok (.getfield 70, 3) := by decide +kernel
theorem dX8_claim_281 : decode cX8_claim 281 = .ok (.iconst 1, 1) := by decide +kernel
theorem dX8_claim_282 : decode cX8_claim 282 = .ok (.isub, 1) := by decide +kernel
theorem dX8_claim_283 : decode cX8_claim 283 = .ok (.ireturn, 1) := by decide +kernel
set_option maxRecDepth 20000 in
theorem ggX8_holds_X1_has : GoodIn wsX8_holds wsX1_has := goodIn_r _ [8, 9, 123, 124, 125] rfl (by decide +kernel)
set_option maxRecDepth 20000 in
theorem gX8_holds_X1_has : GoodIn wsX8_holds (wsV RX8 230 RX1 yX1_has wsX1_has) := goodIn_app (goodIn_of _ (by decide +kernel)) ggX8_holds_X1_has
set_option maxRecDepth 20000 in
theorem ggX8_holds_X1_at : GoodIn wsX8_holds wsX1_at := goodIn_r _ [13, 9, 14, 15, 123, 124, 125] rfl (by decide +kernel)
set_option maxRecDepth 20000 in
theorem gX8_holds_X1_at : GoodIn wsX8_holds (wsV RX8 233 RX1 yX1_at wsX1_at) := goodIn_app (goodIn_of _ (by decide +kernel)) ggX8_holds_X1_at
set_option maxRecDepth 20000 in
theorem ggX8_holds_X8_verdict : GoodIn wsX8_holds wsX8_verdict := goodIn_r _ [20, 21, 22, 23, 24, 25, 26, 27, 28, 29, 30, 31, 32, 33, 34, 35, 36, 37, 38, 39, 40, 41, 42, 43, 44, 45, 46, 47, 48, 49, 50, 51, 52, 53, 54, 55, 56, 57, 58, 59, 60, 61, 62, 63, 64, 65, 66, 67, 68, 69, 70, 71, 72, 73, 74, 75, 76, 77, 78, 79, 80, 81, 82, 83, 84, 85, 86, 87, 88, 89, 90, 91, 92, 93, 94, 95, 96, 97, 98, 99, 100, 101, 102, 103, 104, 105, 106, 107, 108, 109, 110, 111, 112, 113, 114, 115, 116, 117, 118, 119, 120, 121, 122, 126, 127, 128, 129, 130, 131, 132, 133, 134, 135, 136, 137, 138, 139, 140, 141, 142, 143, 144, 145, 146, 147, 148, 149, 150, 151, 152, 153, 154, 155] rfl (by decide +kernel)
set_option maxRecDepth 20000 in
theorem gX8_holds_X8_verdict : GoodIn wsX8_holds (wsV RX8 236 RX8 yX8_verdict wsX8_verdict) := goodIn_app (goodIn_of _ (by decide +kernel)) ggX8_holds_X8_verdict
theorem dX8_holds_0 : decode cX8_holds 0 = .ok (.aload_n 0, 1) := by decide +kernel
theorem dX8_holds_1 : decode cX8_holds 1 = .ok (.getfield 38, 3) := by decide +kernel
theorem dX8_holds_4 : decode cX8_holds 4 = .ok (.iload_n 1, 1) := by decide +kernel
theorem dX8_holds_5 : decode cX8_holds 5 = .ok (.invokevirtual 230, 3) := by decide +kernel
theorem dX8_holds_8 : decode cX8_holds 8 = .ok (.ifCond .ne 13, 3) := by decide +kernel
theorem dX8_holds_11 : decode cX8_holds 11 = .ok (.new 95, 3) := by decide +kernel
theorem dX8_holds_14 : decode cX8_holds 14 = .ok (.dup, 1) := by decide +kernel
theorem dX8_holds_15 : decode cX8_holds 15 = .ok (.ldc 231, 2) := by decide +kernel
theorem dX8_holds_17 : decode cX8_holds 17 = .ok (.invokespecial 99, 3) := by decide +kernel
theorem dX8_holds_20 : decode cX8_holds 20 = .ok (.athrow, 1) := by decide +kernel
theorem dX8_holds_21 : decode cX8_holds 21 = .ok (.aload_n 0, 1) := by decide +kernel
theorem dX8_holds_22 : decode cX8_holds 22 = .ok (.aload_n 0, 1) := by decide +kernel
theorem dX8_holds_23 : decode cX8_holds 23 = .ok (.getfield 38, 3) := by decide +kernel
theorem dX8_holds_26 : decode cX8_holds 26 = .ok (.iload_n 1, 1) := by decide +kernel
theorem dX8_holds_27 : decode cX8_holds 27 = .ok (.invokevirtual 233, 3) := by decide +kernel
theorem dX8_holds_30 : decode cX8_holds 30 = .ok (.invokevirtual 236, 3) := by decide +kernel
theorem dX8_holds_33 : decode cX8_holds 33 = .ok (.ireturn, 1) := by decide +kernel
set_option maxRecDepth 20000 in
theorem ggX8_everywhere_X1_has : GoodIn wsX8_everywhere wsX1_has := goodIn_r _ [16, 17, 260, 261, 262] rfl (by decide +kernel)
set_option maxRecDepth 20000 in
theorem gX8_everywhere_X1_has : GoodIn wsX8_everywhere (wsV RX8 230 RX1 yX1_has wsX1_has) := goodIn_app (goodIn_of _ (by decide +kernel)) ggX8_everywhere_X1_has
set_option maxRecDepth 20000 in
theorem ggX8_everywhere_X6_has : GoodIn wsX8_everywhere wsX6_has := goodIn_r _ [22, 23, 263, 264, 265] rfl (by decide +kernel)
set_option maxRecDepth 20000 in
theorem gX8_everywhere_X6_has : GoodIn wsX8_everywhere (wsV RX8 100 RX6 yX6_has wsX6_has) := goodIn_app (goodIn_of _ (by decide +kernel)) ggX8_everywhere_X6_has
set_option maxRecDepth 20000 in
theorem ggX8_everywhere_X6_at : GoodIn wsX8_everywhere wsX6_at := goodIn_r _ [27, 23, 28, 29, 263, 264, 265] rfl (by decide +kernel)
set_option maxRecDepth 20000 in
theorem gX8_everywhere_X6_at : GoodIn wsX8_everywhere (wsV RX8 103 RX6 yX6_at wsX6_at) := goodIn_app (goodIn_of _ (by decide +kernel)) ggX8_everywhere_X6_at
set_option maxRecDepth 20000 in
theorem ggX8_everywhere_X1_at : GoodIn wsX8_everywhere wsX1_at := goodIn_r _ [33, 17, 34, 35, 260, 261, 262] rfl (by decide +kernel)
set_option maxRecDepth 20000 in
theorem gX8_everywhere_X1_at : GoodIn wsX8_everywhere (wsV RX8 233 RX1 yX1_at wsX1_at) := goodIn_app (goodIn_of _ (by decide +kernel)) ggX8_everywhere_X1_at
set_option maxRecDepth 20000 in
theorem ggX8_everywhere_X6_markFollowers : GoodIn wsX8_everywhere wsX6_markFollowers := goodIn_r _ [39, 23, 40, 41, 42, 43, 44, 45, 25, 26, 21, 27, 28, 29, 263, 264, 265, 244, 245, 246, 247, 248, 249, 250, 251, 252, 253, 254, 255, 256] rfl (by decide +kernel)
set_option maxRecDepth 20000 in
theorem gX8_everywhere_X6_markFollowers : GoodIn wsX8_everywhere (wsV RX8 171 RX6 yX6_markFollowers wsX6_markFollowers) := goodIn_app (goodIn_of _ (by decide +kernel)) ggX8_everywhere_X6_markFollowers
set_option maxRecDepth 20000 in
theorem ggX8_everywhere_X6_wantFor_ : GoodIn wsX8_everywhere wsX6_wantFor_ := goodIn_r _ [49, 50, 51, 52, 53, 54, 55, 56, 57, 21, 58, 23, 45, 25, 26, 27, 28, 29, 59, 60, 61, 62, 41, 43, 44, 266, 267, 268, 269, 270, 244, 245, 246, 247, 248, 249, 250, 251, 252, 253, 254, 255, 256, 263, 264, 265] rfl (by decide +kernel)
set_option maxRecDepth 20000 in
theorem gX8_everywhere_X6_wantFor_ : GoodIn wsX8_everywhere (wsV RX8 244 RX6 yX6_wantFor_ wsX6_wantFor_) := goodIn_app (goodIn_of _ (by decide +kernel)) ggX8_everywhere_X6_wantFor_
set_option maxRecDepth 20000 in
theorem ggX8_everywhere_X8_shift : GoodIn wsX8_everywhere wsX8_shift := goodIn_r _ [67, 68, 6, 69, 70, 71, 72, 73, 74, 75, 76, 77, 78, 24, 25, 26, 21, 27, 23, 28, 29, 79, 80, 81, 66, 82, 83, 84, 85, 86, 87, 88, 89, 90, 91, 92, 93, 94, 95, 96, 97, 98, 99, 100, 101, 102, 103, 104, 105, 106, 107, 108, 109, 110, 111, 112, 113, 114, 115, 116, 117, 118, 119, 120, 121, 122, 123, 124, 125, 126, 127, 128, 129, 130, 131, 132, 133, 134, 135, 136, 137, 138, 139, 140, 141, 142, 143, 144, 145, 146, 147, 148, 149, 150, 151, 152, 153, 154, 155, 156, 157, 158, 159, 160, 161, 162, 163, 164, 165, 166, 167, 168, 169, 170, 171, 172, 173, 174, 175, 176, 177, 178, 179, 180, 181, 182, 183, 184, 185, 186, 187, 188, 189, 190, 191, 192, 193, 244, 245, 246, 247, 248, 249, 250, 251, 252, 253, 254, 255, 256, 238, 239, 240, 241, 242, 243, 263, 264, 265, 271, 272, 257, 258, 259] rfl (by decide +kernel)
set_option maxRecDepth 20000 in
theorem gX8_everywhere_X8_shift : GoodIn wsX8_everywhere (wsV RX8 177 RX8 yX8_shift wsX8_shift) := goodIn_app (goodIn_of _ (by decide +kernel)) ggX8_everywhere_X8_shift
set_option maxRecDepth 20000 in
theorem ggX8_everywhere_X8_verdict : GoodIn wsX8_everywhere wsX8_verdict := goodIn_r _ [197, 6, 198, 199, 200, 201, 86, 202, 203, 24, 25, 26, 21, 27, 23, 28, 29, 204, 205, 206, 207, 208, 209, 210, 211, 212, 213, 145, 146, 91, 147, 103, 97, 98, 125, 104, 105, 106, 107, 108, 109, 110, 111, 112, 113, 214, 215, 216, 217, 218, 219, 183, 184, 185, 220, 221, 222, 223, 224, 225, 226, 227, 228, 229, 230, 75, 231, 118, 119, 120, 232, 233, 234, 235, 236, 237, 137, 138, 139, 126, 127, 128, 129, 130, 131, 132, 133, 134, 135, 99, 100, 101, 102, 114, 115, 116, 117, 238, 239, 240, 241, 242, 243, 266, 267, 268, 269, 270, 244, 245, 246, 247, 248, 249, 250, 251, 252, 253, 254, 255, 256, 263, 264, 265, 273, 274, 275, 276, 271, 272, 257, 258, 259] rfl (by decide +kernel)
set_option maxRecDepth 20000 in
theorem gX8_everywhere_X8_verdict : GoodIn wsX8_everywhere (wsV RX8 236 RX8 yX8_verdict wsX8_verdict) := goodIn_app (goodIn_of _ (by decide +kernel)) ggX8_everywhere_X8_verdict
theorem dX8_everywhere_0 : decode cX8_everywhere 0 = .ok (.aload_n 0, 1) := by decide +kernel
theorem dX8_everywhere_1 : decode cX8_everywhere 1 = .ok (.getfield 38, 3) := by decide +kernel
theorem dX8_everywhere_4 : decode cX8_everywhere 4 = .ok (.iload_n 1, 1) := by decide +kernel
theorem dX8_everywhere_5 : decode cX8_everywhere 5 = .ok (.invokevirtual 230, 3) := by decide +kernel
theorem dX8_everywhere_8 : decode cX8_everywhere 8 = .ok (.ifCond .eq 23, 3) := by decide +kernel
theorem dX8_everywhere_11 : decode cX8_everywhere 11 = .ok (.aload_n 0, 1) := by decide +kernel
theorem dX8_everywhere_12 : decode cX8_everywhere 12 = .ok (.getfield 31, 3) := by decide +kernel
theorem dX8_everywhere_15 : decode cX8_everywhere 15 = .ok (.iload_n 2, 1) := by decide +kernel
theorem dX8_everywhere_16 : decode cX8_everywhere 16 = .ok (.invokevirtual 100, 3) := by decide +kernel
theorem dX8_everywhere_19 : decode cX8_everywhere 19 = .ok (.ifCond .eq 12, 3) := by decide +kernel
theorem dX8_everywhere_22 : decode cX8_everywhere 22 = .ok (.iload_n 3, 1) := by decide +kernel
theorem dX8_everywhere_23 : decode cX8_everywhere 23 = .ok (.ifCond .lt 8, 3) := by decide +kernel
theorem dX8_everywhere_26 : decode cX8_everywhere 26 = .ok (.iload_n 3, 1) := by decide +kernel
theorem dX8_everywhere_27 : decode cX8_everywhere 27 = .ok (.iconst 2, 1) := by decide +kernel
theorem dX8_everywhere_28 : decode cX8_everywhere 28 = .ok (.if_icmp .le 13, 3) := by decide +kernel
theorem dX8_everywhere_31 : decode cX8_everywhere 31 = .ok (.new 95, 3) := by decide +kernel
theorem dX8_everywhere_34 : decode cX8_everywhere 34 = .ok (.dup, 1) := by decide +kernel
theorem dX8_everywhere_35 : decode cX8_everywhere 35 = .ok (.ldc 240, 2) := by decide +kernel
theorem dX8_everywhere_37 : decode cX8_everywhere 37 = .ok (.invokespecial 99, 3) := by decide +kernel
theorem dX8_everywhere_40 : decode cX8_everywhere 40 = .ok (.athrow, 1) := by decide +kernel
theorem dX8_everywhere_41 : decode cX8_everywhere 41 = .ok (.aload_n 0, 1) := by decide +kernel
theorem dX8_everywhere_42 : decode cX8_everywhere 42 = .ok (.getfield 31, 3) := by decide +kernel
theorem dX8_everywhere_45 : decode cX8_everywhere 45 = .ok (.iload_n 2, 1) := by decide +kernel
theorem dX8_everywhere_46 : decode cX8_everywhere 46 = .ok (.invokevirtual 103, 3) := by decide +kernel
theorem dX8_everywhere_49 : decode cX8_everywhere 49 = .ok (.astore 4, 2) := by decide +kernel
theorem dX8_everywhere_51 : decode cX8_everywhere 51 = .ok (.aload 4, 2) := by decide +kernel
theorem dX8_everywhere_53 : decode cX8_everywhere 53 = .ok (.getfield 166, 3) := by decide +kernel
theorem dX8_everywhere_56 : decode cX8_everywhere 56 = .ok (.ifCond .eq 13, 3) := by decide +kernel
theorem dX8_everywhere_59 : decode cX8_everywhere 59 = .ok (.new 116, 3) := by decide +kernel
theorem dX8_everywhere_62 : decode cX8_everywhere 62 = .ok (.dup, 1) := by decide +kernel
theorem dX8_everywhere_63 : decode cX8_everywhere 63 = .ok (.ldc 242, 2) := by decide +kernel
theorem dX8_everywhere_65 : decode cX8_everywhere 65 = .ok (.invokespecial 120, 3) := by decide +kernel
theorem dX8_everywhere_68 : decode cX8_everywhere 68 = .ok (.athrow, 1) := by decide +kernel
theorem dX8_everywhere_69 : decode cX8_everywhere 69 = .ok (.aload_n 0, 1) := by decide +kernel
theorem dX8_everywhere_70 : decode cX8_everywhere 70 = .ok (.getfield 38, 3) := by decide +kernel
theorem dX8_everywhere_73 : decode cX8_everywhere 73 = .ok (.iload_n 1, 1) := by decide +kernel
theorem dX8_everywhere_74 : decode cX8_everywhere 74 = .ok (.invokevirtual 233, 3) := by decide +kernel
theorem dX8_everywhere_77 : decode cX8_everywhere 77 = .ok (.astore 5, 2) := by decide +kernel
theorem dX8_everywhere_79 : decode cX8_everywhere 79 = .ok (.aload_n 0, 1) := by decide +kernel
theorem dX8_everywhere_80 : decode cX8_everywhere 80 = .ok (.getfield 31, 3) := by decide +kernel
theorem dX8_everywhere_83 : decode cX8_everywhere 83 = .ok (.aload 4, 2) := by decide +kernel
theorem dX8_everywhere_85 : decode cX8_everywhere 85 = .ok (.invokevirtual 171, 3) := by decide +kernel
theorem dX8_everywhere_88 : decode cX8_everywhere 88 = .ok (.aload_n 0, 1) := by decide +kernel
theorem dX8_everywhere_89 : decode cX8_everywhere 89 = .ok (.getfield 31, 3) := by decide +kernel
theorem dX8_everywhere_92 : decode cX8_everywhere 92 = .ok (.aload 5, 2) := by decide +kernel
theorem dX8_everywhere_94 : decode cX8_everywhere 94 = .ok (.invokevirtual 244, 3) := by decide +kernel
theorem dX8_everywhere_97 : decode cX8_everywhere 97 = .ok (.aload 4, 2) := by decide +kernel
theorem dX8_everywhere_99 : decode cX8_everywhere 99 = .ok (.getfield 248, 3) := by decide +kernel
theorem dX8_everywhere_102 : decode cX8_everywhere 102 = .ok (.istore 6, 2) := by decide +kernel
theorem dX8_everywhere_104 : decode cX8_everywhere 104 = .ok (.aload 4, 2) := by decide +kernel
theorem dX8_everywhere_106 : decode cX8_everywhere 106 = .ok (.getfield 251, 3) := by decide +kernel
theorem dX8_everywhere_109 : decode cX8_everywhere 109 = .ok (.istore 7, 2) := by decide +kernel
theorem dX8_everywhere_111 : decode cX8_everywhere 111 = .ok (.iconst 0, 1) := by decide +kernel
theorem dX8_everywhere_112 : decode cX8_everywhere 112 = .ok (.istore 8, 2) := by decide +kernel
theorem dX8_everywhere_114 : decode cX8_everywhere 114 = .ok (.iconst 0, 1) := by decide +kernel
theorem dX8_everywhere_115 : decode cX8_everywhere 115 = .ok (.istore 9, 2) := by decide +kernel
theorem dX8_everywhere_117 : decode cX8_everywhere 117 = .ok (.iconst (-1), 1) := by decide +kernel
theorem dX8_everywhere_118 : decode cX8_everywhere 118 = .ok (.istore 10, 2) := by decide +kernel
theorem dX8_everywhere_120 : decode cX8_everywhere 120 = .ok (.aload_n 0, 1) := by decide +kernel
theorem dX8_everywhere_121 : decode cX8_everywhere 121 = .ok (.getfield 27, 3) := by decide +kernel
theorem dX8_everywhere_124 : decode cX8_everywhere 124 = .ok (.getfield 85, 3) := by decide +kernel
theorem dX8_everywhere_127 : decode cX8_everywhere 127 = .ok (.istore 11, 2) := by decide +kernel
theorem dX8_everywhere_129 : decode cX8_everywhere 129 = .ok (.iconst 0, 1) := by decide +kernel
theorem dX8_everywhere_130 : decode cX8_everywhere 130 = .ok (.istore 12, 2) := by decide +kernel
theorem dX8_everywhere_132 : decode cX8_everywhere 132 = .ok (.iload 12, 2) := by decide +kernel
theorem dX8_everywhere_134 : decode cX8_everywhere 134 = .ok (.iload 11, 2) := by decide +kernel
theorem dX8_everywhere_136 : decode cX8_everywhere 136 = .ok (.if_icmp .ge 84, 3) := by decide +kernel
theorem dX8_everywhere_139 : decode cX8_everywhere 139 = .ok (.iconst 0, 1) := by decide +kernel
theorem dX8_everywhere_140 : decode cX8_everywhere 140 = .ok (.istore 13, 2) := by decide +kernel
theorem dX8_everywhere_142 : decode cX8_everywhere 142 = .ok (.iload 13, 2) := by decide +kernel
theorem dX8_everywhere_144 : decode cX8_everywhere 144 = .ok (.iload 11, 2) := by decide +kernel
theorem dX8_everywhere_146 : decode cX8_everywhere 146 = .ok (.if_icmp .ge 68, 3) := by decide +kernel
theorem dX8_everywhere_149 : decode cX8_everywhere 149 = .ok (.aload_n 0, 1) := by decide +kernel
theorem dX8_everywhere_150 : decode cX8_everywhere 150 = .ok (.aload 4, 2) := by decide +kernel
theorem dX8_everywhere_152 : decode cX8_everywhere 152 = .ok (.iload 12, 2) := by decide +kernel
theorem dX8_everywhere_154 : decode cX8_everywhere 154 = .ok (.iload 13, 2) := by decide +kernel
theorem dX8_everywhere_156 : decode cX8_everywhere 156 = .ok (.invokevirtual 177, 3) := by decide +kernel
theorem dX8_everywhere_159 : decode cX8_everywhere 159 = .ok (.aload_n 0, 1) := by decide +kernel
theorem dX8_everywhere_160 : decode cX8_everywhere 160 = .ok (.aload 5, 2) := by decide +kernel
theorem dX8_everywhere_162 : decode cX8_everywhere 162 = .ok (.invokevirtual 236, 3) := by decide +kernel
theorem dX8_everywhere_165 : decode cX8_everywhere 165 = .ok (.istore 14, 2) := by decide +kernel
theorem dX8_everywhere_167 : decode cX8_everywhere 167 = .ok (.iload 14, 2) := by decide +kernel
theorem dX8_everywhere_169 : decode cX8_everywhere 169 = .ok (.iconst 1, 1) := by decide +kernel
theorem dX8_everywhere_170 : decode cX8_everywhere 170 = .ok (.if_icmp .ne 9, 3) := by decide +kernel
theorem dX8_everywhere_173 : decode cX8_everywhere 173 = .ok (.iinc 8 1, 3) := by decide +kernel
theorem dX8_everywhere_176 : decode cX8_everywhere 176 = .ok (.goto 32, 3) := by decide +kernel
theorem dX8_everywhere_179 : decode cX8_everywhere 179 = .ok (.iload 14, 2) := by decide +kernel
theorem dX8_everywhere_181 : decode cX8_everywhere 181 = .ok (.ifCond .ne 27, 3) := by decide +kernel
theorem dX8_everywhere_184 : decode cX8_everywhere 184 = .ok (.iinc 9 1, 3) := by decide +kernel
theorem dX8_everywhere_187 : decode cX8_everywhere 187 = .ok (.iload 10, 2) := by decide +kernel
theorem dX8_everywhere_189 : decode cX8_everywhere 189 = .ok (.iconst (-1), 1) := by decide +kernel
theorem dX8_everywhere_190 : decode cX8_everywhere 190 = .ok (.if_icmp .ne 14, 3) := by decide +kernel
theorem dX8_everywhere_193 : decode cX8_everywhere 193 = .ok (.iload 11, 2) := by decide +kernel
theorem dX8_everywhere_195 : decode cX8_everywhere 195 = .ok (.iload 12, 2) := by decide +kernel
theorem dX8_everywhere_197 : decode cX8_everywhere 197 = .ok (.imul, 1) := by decide +kernel
theorem dX8_everywhere_198 : decode cX8_everywhere 198 = .ok (.iload 13, 2) := by decide +kernel
theorem dX8_everywhere_200 : decode cX8_everywhere 200 = .ok (.iadd, 1) := by decide +kernel
theorem dX8_everywhere_201 : decode cX8_everywhere 201 = .ok (.goto 5, 3) := by decide +kernel
theorem dX8_everywhere_204 : decode cX8_everywhere 204 = .ok (.iload 10, 2) := by decide +kernel
theorem dX8_everywhere_206 : decode cX8_everywhere 206 = .ok (.istore 10, 2) := by decide +kernel
theorem dX8_everywhere_208 : decode cX8_everywhere 208 = .ok (.iinc 13 1, 3) := by decide +kernel
theorem dX8_everywhere_211 : decode cX8_everywhere 211 = .ok (.goto (-69), 3) := by decide +kernel
theorem dX8_everywhere_214 : decode cX8_everywhere 214 = .ok (.iinc 12 1, 3) := by decide +kernel
theorem dX8_everywhere_217 : decode cX8_everywhere 217 = .ok (.goto (-85), 3) := by decide +kernel
theorem dX8_everywhere_220 : decode cX8_everywhere 220 = .ok (.aload_n 0, 1) := by decide +kernel
theorem dX8_everywhere_221 : decode cX8_everywhere 221 = .ok (.aload 4, 2) := by decide +kernel
theorem dX8_everywhere_223 : decode cX8_everywhere 223 = .ok (.iload 6, 2) := by decide +kernel
theorem dX8_everywhere_225 : decode cX8_everywhere 225 = .ok (.iload 7, 2) := by decide +kernel
theorem dX8_everywhere_227 : decode cX8_everywhere 227 = .ok (.invokevirtual 177, 3) := by decide +kernel
theorem dX8_everywhere_230 : decode cX8_everywhere 230 = .ok (.iload_n 3, 1) := by decide +kernel
theorem dX8_everywhere_231 : decode cX8_everywhere 231 = .ok (.ifCond .ne 8, 3) := by decide +kernel
theorem dX8_everywhere_234 : decode cX8_everywhere 234 = .ok (.iload 8, 2) := by decide +kernel
theorem dX8_everywhere_236 : decode cX8_everywhere 236 = .ok (.goto 15, 3) := by decide +kernel
theorem dX8_everywhere_239 : decode cX8_everywhere 239 = .ok (.iload_n 3, 1) := by decide +kernel
theorem dX8_everywhere_240 : decode cX8_everywhere 240 = .ok (.iconst 1, 1) := by decide +kernel
theorem dX8_everywhere_241 : decode cX8_everywhere 241 = .ok (.if_icmp .ne 8, 3) := by decide +kernel
theorem dX8_everywhere_244 : decode cX8_everywhere 244 = .ok (.iload 9, 2) := by decide +kernel
theorem dX8_everywhere_246 : decode cX8_everywhere 246 = .ok (.goto 5, 3) := by decide +kernel
theorem dX8_everywhere_249 : decode cX8_everywhere 249 = .ok (.iload 10, 2) := by decide +kernel
theorem dX8_everywhere_251 : decode cX8_everywhere 251 = .ok (.ireturn, 1) := by decide +kernel
set_option maxRecDepth 20000 in
theorem ggX8_locus_X6_has : GoodIn wsX8_locus wsX6_has := goodIn_r _ [19, 20, 274, 275, 276] rfl (by decide +kernel)
set_option maxRecDepth 20000 in
theorem gX8_locus_X6_has : GoodIn wsX8_locus (wsV RX8 100 RX6 yX6_has wsX6_has) := goodIn_app (goodIn_of _ (by decide +kernel)) ggX8_locus_X6_has
set_option maxRecDepth 20000 in
theorem ggX8_locus_X6_at : GoodIn wsX8_locus wsX6_at := goodIn_r _ [24, 20, 25, 26, 274, 275, 276] rfl (by decide +kernel)
set_option maxRecDepth 20000 in
theorem gX8_locus_X6_at : GoodIn wsX8_locus (wsV RX8 103 RX6 yX6_at wsX6_at) := goodIn_app (goodIn_of _ (by decide +kernel)) ggX8_locus_X6_at
set_option maxRecDepth 20000 in
theorem ggX8_locus_X4_sort : GoodIn wsX8_locus wsX4_sort := goodIn_r _ [31, 32, 256, 257, 258, 259, 260, 261, 262, 263, 264, 265, 266, 267, 268] rfl (by decide +kernel)
set_option maxRecDepth 20000 in
theorem gX8_locus_X4_sort : GoodIn wsX8_locus (wsV RX8 107 RX4 yX4_sort wsX4_sort) := goodIn_app (goodIn_of _ (by decide +kernel)) ggX8_locus_X4_sort
set_option maxRecDepth 20000 in
theorem ggX8_locus_X6_markFollowers : GoodIn wsX8_locus wsX6_markFollowers := goodIn_r _ [36, 20, 37, 38, 39, 40, 41, 42, 22, 23, 18, 24, 25, 26, 274, 275, 276, 256, 257, 258, 259, 260, 261, 262, 263, 264, 265, 266, 267, 268] rfl (by decide +kernel)
set_option maxRecDepth 20000 in
theorem gX8_locus_X6_markFollowers : GoodIn wsX8_locus (wsV RX8 171 RX6 yX6_markFollowers wsX6_markFollowers) := goodIn_app (goodIn_of _ (by decide +kernel)) ggX8_locus_X6_markFollowers
set_option maxRecDepth 20000 in
theorem ggX8_locus_X6_wantFor : GoodIn wsX8_locus wsX6_wantFor := goodIn_r _ [46, 47, 48, 49, 50, 18, 51, 20, 42, 22, 23, 24, 25, 26, 52, 53, 54, 55, 38, 40, 41, 256, 257, 258, 259, 260, 261, 262, 263, 264, 265, 266, 267, 268, 274, 275, 276] rfl (by decide +kernel)
set_option maxRecDepth 20000 in
theorem gX8_locus_X6_wantFor : GoodIn wsX8_locus (wsV RX8 258 RX6 yX6_wantFor wsX6_wantFor) := goodIn_app (goodIn_of _ (by decide +kernel)) ggX8_locus_X6_wantFor
set_option maxRecDepth 20000 in
theorem ggX8_locus_X7_clear : GoodIn wsX8_locus wsX7_clear := goodIn_r _ [60, 61, 62, 63, 272, 273, 274, 275, 276] rfl (by decide +kernel)
set_option maxRecDepth 20000 in
theorem gX8_locus_X7_clear : GoodIn wsX8_locus (wsV RX8 260 RX7 yX7_clear wsX7_clear) := goodIn_app (goodIn_of _ (by decide +kernel)) ggX8_locus_X7_clear
set_option maxRecDepth 20000 in
theorem ggX8_locus_X8_shift : GoodIn wsX8_locus wsX8_shift := goodIn_r _ [68, 69, 5, 12, 70, 71, 72, 73, 74, 30, 75, 76, 77, 21, 22, 23, 18, 24, 20, 25, 26, 78, 79, 80, 67, 81, 82, 83, 84, 85, 86, 87, 88, 89, 90, 91, 92, 93, 94, 95, 96, 97, 98, 99, 100, 101, 102, 103, 104, 105, 106, 107, 108, 109, 110, 111, 112, 113, 114, 115, 116, 117, 118, 119, 120, 121, 122, 123, 124, 125, 126, 127, 128, 129, 130, 131, 132, 133, 134, 135, 136, 137, 138, 139, 140, 141, 142, 143, 144, 145, 146, 147, 148, 149, 150, 151, 152, 153, 154, 155, 156, 157, 158, 159, 160, 161, 162, 163, 164, 165, 166, 167, 168, 169, 170, 171, 172, 173, 174, 175, 176, 177, 178, 179, 180, 181, 182, 183, 184, 185, 186, 187, 188, 189, 190, 191, 192, 256, 257, 258, 259, 260, 261, 262, 263, 264, 265, 266, 267, 268, 250, 251, 252, 253, 254, 255, 274, 275, 276, 277, 278, 269, 270, 271] rfl (by decide +kernel)
set_option maxRecDepth 20000 in
theorem gX8_locus_X8_shift : GoodIn wsX8_locus (wsV RX8 177 RX8 yX8_shift wsX8_shift) := goodIn_app (goodIn_of _ (by decide +kernel)) ggX8_locus_X8_shift
set_option maxRecDepth 20000 in
theorem ggX8_locus_X7_look : GoodIn wsX8_locus wsX7_look := goodIn_r _ [196, 197, 63, 61, 198, 199, 200, 201, 202, 59, 203, 62, 204, 22, 23, 18, 24, 20, 25, 26, 205, 206, 207, 30, 208, 117, 118, 119, 209, 210, 211, 212, 42, 213, 114, 115, 116, 256, 257, 258, 259, 260, 261, 262, 263, 264, 265, 266, 267, 268, 272, 273, 274, 275, 276] rfl (by decide +kernel)
set_option maxRecDepth 20000 in
theorem gX8_locus_X7_look : GoodIn wsX8_locus (wsV RX8 263 RX7 yX7_look wsX7_look) := goodIn_app (goodIn_of _ (by decide +kernel)) ggX8_locus_X7_look
set_option maxRecDepth 20000 in
theorem ggX8_locus_X5_shapeOf : GoodIn wsX8_locus wsX5_shapeOf := goodIn_r _ [218, 219, 220, 221, 222, 217, 223, 224, 22, 23, 18, 24, 20, 25, 26, 225, 226, 227, 228, 229, 230, 231, 232, 104, 105, 106, 107, 108, 109, 110, 111, 112, 233, 234, 235, 236, 237, 238, 239, 190, 191, 90, 192, 96, 97, 102, 103, 125, 126, 127, 128, 129, 130, 131, 132, 133, 134, 185, 186, 187, 188, 124, 113, 114, 115, 30, 116, 117, 118, 119, 240, 241, 242, 243, 244, 245, 182, 183, 184, 274, 275, 276, 279, 280, 281, 282, 256, 257, 258, 259, 260, 261, 262, 263, 264, 265, 266, 267, 268, 269, 270, 271, 277, 278] rfl (by decide +kernel)
set_option maxRecDepth 20000 in
theorem gX8_locus_X5_shapeOf : GoodIn wsX8_locus (wsV RX8 269 RX5 yX5_shapeOf wsX5_shapeOf) := goodIn_app (goodIn_of _ (by decide +kernel)) ggX8_locus_X5_shapeOf
set_option maxRecDepth 20000 in
theorem ggX8_locus_X7_sum : GoodIn wsX8_locus wsX7_sum := goodIn_r _ [249, 61, 62, 198, 199, 204, 22, 23, 18, 24, 20, 25, 26, 272, 273, 274, 275, 276, 256, 257, 258, 259, 260, 261, 262, 263, 264, 265, 266, 267, 268] rfl (by decide +kernel)
set_option maxRecDepth 20000 in
theorem gX8_locus_X7_sum : GoodIn wsX8_locus (wsV RX8 276 RX7 yX7_sum wsX7_sum) := goodIn_app (goodIn_of _ (by decide +kernel)) ggX8_locus_X7_sum
theorem dX8_locus_0 : decode cX8_locus 0 = .ok (.aload_n 0, 1) := by decide +kernel
theorem dX8_locus_1 : decode cX8_locus 1 = .ok (.getfield 31, 3) := by decide +kernel
theorem dX8_locus_4 : decode cX8_locus 4 = .ok (.iload_n 1, 1) := by decide +kernel
theorem dX8_locus_5 : decode cX8_locus 5 = .ok (.invokevirtual 100, 3) := by decide +kernel
theorem dX8_locus_8 : decode cX8_locus 8 = .ok (.ifCond .eq 23, 3) := by decide +kernel
theorem dX8_locus_11 : decode cX8_locus 11 = .ok (.aload_n 0, 1) := by decide +kernel
theorem dX8_locus_12 : decode cX8_locus 12 = .ok (.getfield 31, 3) := by decide +kernel
theorem dX8_locus_15 : decode cX8_locus 15 = .ok (.iload_n 2, 1) := by decide +kernel
theorem dX8_locus_16 : decode cX8_locus 16 = .ok (.invokevirtual 100, 3) := by decide +kernel
theorem dX8_locus_19 : decode cX8_locus 19 = .ok (.ifCond .eq 12, 3) := by decide +kernel
theorem dX8_locus_22 : decode cX8_locus 22 = .ok (.iload_n 3, 1) := by decide +kernel
theorem dX8_locus_23 : decode cX8_locus 23 = .ok (.ifCond .lt 8, 3) := by decide +kernel
theorem dX8_locus_26 : decode cX8_locus 26 = .ok (.iload_n 3, 1) := by decide +kernel
theorem dX8_locus_27 : decode cX8_locus 27 = .ok (.iconst 3, 1) := by decide +kernel
theorem dX8_locus_28 : decode cX8_locus 28 = .ok (.if_icmp .le 13, 3) := by decide +kernel
theorem dX8_locus_31 : decode cX8_locus 31 = .ok (.new 95, 3) := by decide +kernel
theorem dX8_locus_34 : decode cX8_locus 34 = .ok (.dup, 1) := by decide +kernel
theorem dX8_locus_35 : decode cX8_locus 35 = .ok (.ldc 254, 2) := by decide +kernel
theorem dX8_locus_37 : decode cX8_locus 37 = .ok (.invokespecial 99, 3) := by decide +kernel
theorem dX8_locus_40 : decode cX8_locus 40 = .ok (.athrow, 1) := by decide +kernel
theorem dX8_locus_41 : decode cX8_locus 41 = .ok (.aload_n 0, 1) := by decide +kernel
theorem dX8_locus_42 : decode cX8_locus 42 = .ok (.getfield 31, 3) := by decide +kernel
theorem dX8_locus_45 : decode cX8_locus 45 = .ok (.iload_n 1, 1) := by decide +kernel
theorem dX8_locus_46 : decode cX8_locus 46 = .ok (.invokevirtual 103, 3) := by decide +kernel
theorem dX8_locus_49 : decode cX8_locus 49 = .ok (.astore 4, 2) := by decide +kernel
theorem dX8_locus_51 : decode cX8_locus 51 = .ok (.aload_n 0, 1) := by decide +kernel
theorem dX8_locus_52 : decode cX8_locus 52 = .ok (.getfield 31, 3) := by decide +kernel
theorem dX8_locus_55 : decode cX8_locus 55 = .ok (.iload_n 2, 1) := by decide +kernel
theorem dX8_locus_56 : decode cX8_locus 56 = .ok (.invokevirtual 103, 3) := by decide +kernel
theorem dX8_locus_59 : decode cX8_locus 59 = .ok (.astore 5, 2) := by decide +kernel
theorem dX8_locus_61 : decode cX8_locus 61 = .ok (.aload 4, 2) := by decide +kernel
theorem dX8_locus_63 : decode cX8_locus 63 = .ok (.invokevirtual 107, 3) := by decide +kernel
theorem dX8_locus_66 : decode cX8_locus 66 = .ok (.ifCond .ne 12, 3) := by decide +kernel
theorem dX8_locus_69 : decode cX8_locus 69 = .ok (.aload 5, 2) := by decide +kernel
theorem dX8_locus_71 : decode cX8_locus 71 = .ok (.getfield 166, 3) := by decide +kernel
theorem dX8_locus_74 : decode cX8_locus 74 = .ok (.iconst 1, 1) := by decide +kernel
theorem dX8_locus_75 : decode cX8_locus 75 = .ok (.if_icmp .eq 14, 3) := by decide +kernel
theorem dX8_locus_78 : decode cX8_locus 78 = .ok (.new 116, 3) := by decide +kernel
theorem dX8_locus_81 : decode cX8_locus 81 = .ok (.dup, 1) := by decide +kernel
theorem dX8_locus_82 : decode cX8_locus 82 = .ok (.ldc_w 256, 3) := by decide +kernel
theorem dX8_locus_85 : decode cX8_locus 85 = .ok (.invokespecial 120, 3) := by decide +kernel
theorem dX8_locus_88 : decode cX8_locus 88 = .ok (.athrow, 1) := by decide +kernel
theorem dX8_locus_89 : decode cX8_locus 89 = .ok (.aload_n 0, 1) := by decide +kernel
theorem dX8_locus_90 : decode cX8_locus 90 = .ok (.getfield 31, 3) := by decide +kernel
theorem dX8_locus_93 : decode cX8_locus 93 = .ok (.aload 5, 2) := by decide +kernel
theorem dX8_locus_95 : decode cX8_locus 95 = .ok (.invokevirtual 171, 3) := by decide +kernel
theorem dX8_locus_98 : decode cX8_locus 98 = .ok (.aload_n 0, 1) := by decide +kernel
theorem dX8_locus_99 : decode cX8_locus 99 = .ok (.getfield 31, 3) := by decide +kernel
theorem dX8_locus_102 : decode cX8_locus 102 = .ok (.aload 4, 2) := by decide +kernel
theorem dX8_locus_104 : decode cX8_locus 104 = .ok (.invokevirtual 258, 3) := by decide +kernel
theorem dX8_locus_107 : decode cX8_locus 107 = .ok (.aload_n 0, 1) := by decide +kernel
theorem dX8_locus_108 : decode cX8_locus 108 = .ok (.getfield 45, 3) := by decide +kernel
theorem dX8_locus_111 : decode cX8_locus 111 = .ok (.invokevirtual 260, 3) := by decide +kernel
theorem dX8_locus_114 : decode cX8_locus 114 = .ok (.aload 5, 2) := by decide +kernel
theorem dX8_locus_116 : decode cX8_locus 116 = .ok (.getfield 248, 3) := by decide +kernel
theorem dX8_locus_119 : decode cX8_locus 119 = .ok (.istore 6, 2) := by decide +kernel
theorem dX8_locus_121 : decode cX8_locus 121 = .ok (.iconst 0, 1) := by decide +kernel
theorem dX8_locus_122 : decode cX8_locus 122 = .ok (.istore 7, 2) := by decide +kernel
theorem dX8_locus_124 : decode cX8_locus 124 = .ok (.iload 7, 2) := by decide +kernel
theorem dX8_locus_126 : decode cX8_locus 126 = .ok (.aload_n 0, 1) := by decide +kernel
theorem dX8_locus_127 : decode cX8_locus 127 = .ok (.getfield 27, 3) := by decide +kernel
theorem dX8_locus_130 : decode cX8_locus 130 = .ok (.getfield 85, 3) := by decide +kernel
theorem dX8_locus_133 : decode cX8_locus 133 = .ok (.if_icmp .ge 27, 3) := by decide +kernel
theorem dX8_locus_136 : decode cX8_locus 136 = .ok (.aload_n 0, 1) := by decide +kernel
theorem dX8_locus_137 : decode cX8_locus 137 = .ok (.aload 5, 2) := by decide +kernel
theorem dX8_locus_139 : decode cX8_locus 139 = .ok (.iload 7, 2) := by decide +kernel
theorem dX8_locus_141 : decode cX8_locus 141 = .ok (.iconst 0, 1) := by decide +kernel
theorem dX8_locus_142 : decode cX8_locus 142 = .ok (.invokevirtual 177, 3) := by decide +kernel
theorem dX8_locus_145 : decode cX8_locus 145 = .ok (.aload_n 0, 1) := by decide +kernel
theorem dX8_locus_146 : decode cX8_locus 146 = .ok (.getfield 45, 3) := by decide +kernel
theorem dX8_locus_149 : decode cX8_locus 149 = .ok (.aload 4, 2) := by decide +kernel
theorem dX8_locus_151 : decode cX8_locus 151 = .ok (.invokevirtual 263, 3) := by decide +kernel
theorem dX8_locus_154 : decode cX8_locus 154 = .ok (.iinc 7 1, 3) := by decide +kernel
theorem dX8_locus_157 : decode cX8_locus 157 = .ok (.goto (-33), 3) := by decide +kernel
theorem dX8_locus_160 : decode cX8_locus 160 = .ok (.aload_n 0, 1) := by decide +kernel
theorem dX8_locus_161 : decode cX8_locus 161 = .ok (.aload 5, 2) := by decide +kernel
theorem dX8_locus_163 : decode cX8_locus 163 = .ok (.iload 6, 2) := by decide +kernel
theorem dX8_locus_165 : decode cX8_locus 165 = .ok (.iconst 0, 1) := by decide +kernel
theorem dX8_locus_166 : decode cX8_locus 166 = .ok (.invokevirtual 177, 3) := by decide +kernel
theorem dX8_locus_169 : decode cX8_locus 169 = .ok (.iload_n 3, 1) := by decide +kernel
theorem dX8_locus_170 : decode cX8_locus 170 = .ok (.tableswitch 60 0 2 #[26, 37, 52], 26) := by decide +kernel
theorem dX8_locus_196 : decode cX8_locus 196 = .ok (.aload_n 0, 1) := by decide +kernel
theorem dX8_locus_197 : decode cX8_locus 197 = .ok (.getfield 45, 3) := by decide +kernel
theorem dX8_locus_200 : decode cX8_locus 200 = .ok (.getfield 266, 3) := by decide +kernel
