theorem dX8_remake_95 : decode cX8_remake 95 = .ok (.return_, 1) := by decide +kernel
set_option maxRecDepth 20000 in
theorem ggX8_shift_X4_tell : GoodIn wsX8_shift wsX4_tell := goodIn_r _ [10, 11, 12, 137, 138, 139, 140, 141, 142, 143, 144, 145, 146, 147, 148, 149] (by decide +kernel) (by decide +kernel)
set_option maxRecDepth 20000 in
theorem gX8_shift_X4_tell : GoodIn wsX8_shift (wsV RX8 129 RX4 yX4_tell wsX4_tell) := goodIn_app (goodIn_of _ (by decide +kernel)) ggX8_shift_X4_tell
set_option maxRecDepth 20000 in
theorem ggX8_shift_X6_at : GoodIn wsX8_shift wsX6_at := goodIn_r _ [17, 18, 19, 20, 156, 157, 158] (by decide +kernel) (by decide +kernel)
set_option maxRecDepth 20000 in
theorem gX8_shift_X6_at : GoodIn wsX8_shift (wsV RX8 103 RX6 yX6_at wsX6_at) := goodIn_app (goodIn_of _ (by decide +kernel)) ggX8_shift_X6_at
set_option maxRecDepth 20000 in
theorem ggX8_shift_X8_remake : GoodIn wsX8_shift wsX8_remake := goodIn_r _ [25, 2, 26, 27, 28, 29, 30, 13, 14, 15, 16, 17, 18, 19, 20, 31, 32, 33, 34, 35, 36, 37, 38, 39, 40, 41, 42, 43, 44, 45, 46, 47, 48, 49, 50, 51, 52, 53, 54, 55, 56, 57, 58, 59, 9, 60, 61, 62, 63, 64, 65, 66, 67, 68, 69, 70, 71, 72, 73, 74, 75, 76, 77, 78, 79, 80, 81, 82, 83, 84, 85, 86, 87, 88, 89, 90, 91, 92, 93, 94, 95, 96, 97, 98, 99, 100, 101, 102, 103, 104, 105, 106, 107, 108, 109, 110, 111, 112, 113, 114, 115, 116, 117, 118, 119, 120, 121, 122, 123, 124, 125, 126, 127, 128, 129, 130, 131, 132, 133, 134, 135, 136, 150, 151, 152, 153, 154, 155, 137, 138, 139, 140, 141, 142, 143, 144, 145, 146, 147, 148, 149, 156, 157, 158, 159, 160, 161, 162, 163] (by decide +kernel) (by decide +kernel)
set_option maxRecDepth 20000 in
theorem gX8_shift_X8_remake : GoodIn wsX8_shift (wsV RX8 133 RX8 yX8_remake wsX8_remake) := goodIn_app (goodIn_of _ (by decide +kernel)) ggX8_shift_X8_remake
theorem dX8_shift_0 : decode cX8_shift 0 = .ok (.aload_n 1, 1) := by decide +kernel
theorem dX8_shift_1 : decode cX8_shift 1 = .ok (.iload_n 2, 1) := by decide +kernel
theorem dX8_shift_2 : decode cX8_shift 2 = .ok (.iload_n 3, 1) := by decide +kernel
theorem dX8_shift_3 : decode cX8_shift 3 = .ok (.invokevirtual 129, 3) := by decide +kernel
theorem dX8_shift_6 : decode cX8_shift 6 = .ok (.aload_n 1, 1) := by decide +kernel
theorem dX8_shift_7 : decode cX8_shift 7 = .ok (.getfield 137, 3) := by decide +kernel
theorem dX8_shift_10 : decode cX8_shift 10 = .ok (.istore 4, 2) := by decide +kernel
theorem dX8_shift_12 : decode cX8_shift 12 = .ok (.iload 4, 2) := by decide +kernel
theorem dX8_shift_14 : decode cX8_shift 14 = .ok (.aload_n 0, 1) := by decide +kernel
theorem dX8_shift_15 : decode cX8_shift 15 = .ok (.getfield 31, 3) := by decide +kernel
theorem dX8_shift_18 : decode cX8_shift 18 = .ok (.getfield 66, 3) := by decide +kernel
theorem dX8_shift_21 : decode cX8_shift 21 = .ok (.if_icmp .ge 42, 3) := by decide +kernel
theorem dX8_shift_24 : decode cX8_shift 24 = .ok (.aload_n 0, 1) := by decide +kernel
theorem dX8_shift_25 : decode cX8_shift 25 = .ok (.getfield 31, 3) := by decide +kernel
theorem dX8_shift_28 : decode cX8_shift 28 = .ok (.iload 4, 2) := by decide +kernel
theorem dX8_shift_30 : decode cX8_shift 30 = .ok (.invokevirtual 103, 3) := by decide +kernel
theorem dX8_shift_33 : decode cX8_shift 33 = .ok (.astore 5, 2) := by decide +kernel
theorem dX8_shift_35 : decode cX8_shift 35 = .ok (.aload 5, 2) := by decide +kernel
theorem dX8_shift_37 : decode cX8_shift 37 = .ok (.getfield 300, 3) := by decide +kernel
theorem dX8_shift_40 : decode cX8_shift 40 = .ok (.ifCond .eq 17, 3) := by decide +kernel
theorem dX8_shift_43 : decode cX8_shift 43 = .ok (.aload 5, 2) := by decide +kernel
theorem dX8_shift_45 : decode cX8_shift 45 = .ok (.getfield 303, 3) := by decide +kernel
theorem dX8_shift_48 : decode cX8_shift 48 = .ok (.ifCond .eq 9, 3) := by decide +kernel
theorem dX8_shift_51 : decode cX8_shift 51 = .ok (.aload_n 0, 1) := by decide +kernel
theorem dX8_shift_52 : decode cX8_shift 52 = .ok (.aload 5, 2) := by decide +kernel
theorem dX8_shift_54 : decode cX8_shift 54 = .ok (.invokevirtual 133, 3) := by decide +kernel
theorem dX8_shift_57 : decode cX8_shift 57 = .ok (.iinc 4 1, 3) := by decide +kernel
theorem dX8_shift_60 : decode cX8_shift 60 = .ok (.goto (-48), 3) := by decide +kernel
theorem dX8_shift_63 : decode cX8_shift 63 = .ok (.return_, 1) := by decide +kernel
set_option maxRecDepth 20000 in
theorem ggX8_verdict_X6_at : GoodIn wsX8_verdict wsX6_at := goodIn_r _ [13, 14, 15, 16, 121, 122, 123] (by decide +kernel) (by decide +kernel)
set_option maxRecDepth 20000 in
theorem gX8_verdict_X6_at : GoodIn wsX8_verdict (wsV RX8 103 RX6 yX6_at wsX6_at) := goodIn_app (goodIn_of _ (by decide +kernel)) ggX8_verdict_X6_at
set_option maxRecDepth 20000 in
theorem ggX8_verdict_X5_isTrue : GoodIn wsX8_verdict wsX5_isTrue := goodIn_r _ [21, 22, 23, 24, 25, 26, 27, 28, 29, 30, 31, 32, 33, 34, 35, 36, 37, 38, 39, 40, 41, 42, 43, 44, 45, 46, 47, 20, 48, 49, 50, 51, 52, 53, 54, 55, 56, 57, 58, 59, 60, 61, 62, 63, 64, 65, 66, 67, 68, 69, 70, 71, 72, 73, 74, 75, 76, 77, 78, 79, 80, 81, 82, 83, 84, 85, 86, 87, 88, 89, 90, 91, 92, 93, 94, 95, 96, 124, 125, 126, 127, 108, 109, 110, 111, 112, 113, 114, 115, 116, 117, 118, 119, 120, 128, 129, 130, 131, 132] (by decide +kernel) (by decide +kernel)
set_option maxRecDepth 20000 in
theorem gX8_verdict_X5_isTrue : GoodIn wsX8_verdict (wsV RX8 314 RX5 yX5_isTrue wsX5_isTrue) := goodIn_app (goodIn_of _ (by decide +kernel)) ggX8_verdict_X5_isTrue
theorem dX8_verdict_0 : decode cX8_verdict 0 = .ok (.aload_n 0, 1) := by decide +kernel
theorem dX8_verdict_1 : decode cX8_verdict 1 = .ok (.getfield 31, 3) := by decide +kernel
theorem dX8_verdict_4 : decode cX8_verdict 4 = .ok (.aload_n 1, 1) := by decide +kernel
theorem dX8_verdict_5 : decode cX8_verdict 5 = .ok (.getfield 306, 3) := by decide +kernel
theorem dX8_verdict_8 : decode cX8_verdict 8 = .ok (.invokevirtual 103, 3) := by decide +kernel
theorem dX8_verdict_11 : decode cX8_verdict 11 = .ok (.astore_n 2, 1) := by decide +kernel
theorem dX8_verdict_12 : decode cX8_verdict 12 = .ok (.aload_n 0, 1) := by decide +kernel
theorem dX8_verdict_13 : decode cX8_verdict 13 = .ok (.getfield 31, 3) := by decide +kernel
theorem dX8_verdict_16 : decode cX8_verdict 16 = .ok (.aload_n 1, 1) := by decide +kernel
theorem dX8_verdict_17 : decode cX8_verdict 17 = .ok (.getfield 307, 3) := by decide +kernel
theorem dX8_verdict_20 : decode cX8_verdict 20 = .ok (.invokevirtual 103, 3) := by decide +kernel
theorem dX8_verdict_23 : decode cX8_verdict 23 = .ok (.astore_n 3, 1) := by decide +kernel
theorem dX8_verdict_24 : decode cX8_verdict 24 = .ok (.aload_n 0, 1) := by decide +kernel
theorem dX8_verdict_25 : decode cX8_verdict 25 = .ok (.getfield 31, 3) := by decide +kernel
theorem dX8_verdict_28 : decode cX8_verdict 28 = .ok (.aload_n 1, 1) := by decide +kernel
theorem dX8_verdict_29 : decode cX8_verdict 29 = .ok (.getfield 308, 3) := by decide +kernel
theorem dX8_verdict_32 : decode cX8_verdict 32 = .ok (.invokevirtual 103, 3) := by decide +kernel
theorem dX8_verdict_35 : decode cX8_verdict 35 = .ok (.astore 4, 2) := by decide +kernel
theorem dX8_verdict_37 : decode cX8_verdict 37 = .ok (.aload_n 0, 1) := by decide +kernel
theorem dX8_verdict_38 : decode cX8_verdict 38 = .ok (.getfield 31, 3) := by decide +kernel
theorem dX8_verdict_41 : decode cX8_verdict 41 = .ok (.aload_n 1, 1) := by decide +kernel
theorem dX8_verdict_42 : decode cX8_verdict 42 = .ok (.getfield 309, 3) := by decide +kernel
theorem dX8_verdict_45 : decode cX8_verdict 45 = .ok (.invokevirtual 103, 3) := by decide +kernel
theorem dX8_verdict_48 : decode cX8_verdict 48 = .ok (.astore 5, 2) := by decide +kernel
theorem dX8_verdict_50 : decode cX8_verdict 50 = .ok (.aload_n 2, 1) := by decide +kernel
theorem dX8_verdict_51 : decode cX8_verdict 51 = .ok (.getfield 188, 3) := by decide +kernel
theorem dX8_verdict_54 : decode cX8_verdict 54 = .ok (.ifCond .ne 26, 3) := by decide +kernel
theorem dX8_verdict_57 : decode cX8_verdict 57 = .ok (.aload_n 3, 1) := by decide +kernel
theorem dX8_verdict_58 : decode cX8_verdict 58 = .ok (.getfield 188, 3) := by decide +kernel
theorem dX8_verdict_61 : decode cX8_verdict 61 = .ok (.ifCond .ne 19, 3) := by decide +kernel
theorem dX8_verdict_64 : decode cX8_verdict 64 = .ok (.aload 4, 2) := by decide +kernel
theorem dX8_verdict_66 : decode cX8_verdict 66 = .ok (.getfield 188, 3) := by decide +kernel
theorem dX8_verdict_69 : decode cX8_verdict 69 = .ok (.ifCond .ne 11, 3) := by decide +kernel
theorem dX8_verdict_72 : decode cX8_verdict 72 = .ok (.aload 5, 2) := by decide +kernel
theorem dX8_verdict_74 : decode cX8_verdict 74 = .ok (.getfield 188, 3) := by decide +kernel
theorem dX8_verdict_77 : decode cX8_verdict 77 = .ok (.ifCond .eq 5, 3) := by decide +kernel
theorem dX8_verdict_80 : decode cX8_verdict 80 = .ok (.iconst (-1), 1) := by decide +kernel
theorem dX8_verdict_81 : decode cX8_verdict 81 = .ok (.ireturn, 1) := by decide +kernel
theorem dX8_verdict_82 : decode cX8_verdict 82 = .ok (.aload_n 0, 1) := by decide +kernel
theorem dX8_verdict_83 : decode cX8_verdict 83 = .ok (.getfield 10, 3) := by decide +kernel
theorem dX8_verdict_86 : decode cX8_verdict 86 = .ok (.aload_n 1, 1) := by decide +kernel
theorem dX8_verdict_87 : decode cX8_verdict 87 = .ok (.getfield 312, 3) := by decide +kernel
theorem dX8_verdict_90 : decode cX8_verdict 90 = .ok (.aload_n 2, 1) := by decide +kernel
theorem dX8_verdict_91 : decode cX8_verdict 91 = .ok (.aload_n 3, 1) := by decide +kernel
theorem dX8_verdict_92 : decode cX8_verdict 92 = .ok (.aload 4, 2) := by decide +kernel
theorem dX8_verdict_94 : decode cX8_verdict 94 = .ok (.aload 5, 2) := by decide +kernel
theorem dX8_verdict_96 : decode cX8_verdict 96 = .ok (.invokevirtual 314, 3) := by decide +kernel
theorem dX8_verdict_99 : decode cX8_verdict 99 = .ok (.ifCond .eq 7, 3) := by decide +kernel
theorem dX8_verdict_102 : decode cX8_verdict 102 = .ok (.iconst 1, 1) := by decide +kernel
theorem dX8_verdict_103 : decode cX8_verdict 103 = .ok (.goto 4, 3) := by decide +kernel
theorem dX8_verdict_106 : decode cX8_verdict 106 = .ok (.iconst 0, 1) := by decide +kernel
theorem dX8_verdict_107 : decode cX8_verdict 107 = .ok (.ireturn, 1) := by decide +kernel
theorem dX9_init_0 : decode cX9_init 0 = .ok (.aload_n 0, 1) := by decide +kernel
theorem dX9_init_1 : decode cX9_init 1 = .ok (.invokespecial 1, 3) := by decide +kernel
theorem dX9_init_4 : decode cX9_init 4 = .ok (.aload_n 0, 1) := by decide +kernel
theorem dX9_init_5 : decode cX9_init 5 = .ok (.bipush 43, 2) := by decide +kernel
theorem dX9_init_7 : decode cX9_init 7 = .ok (.putfield 7, 3) := by decide +kernel
theorem dX9_init_10 : decode cX9_init 10 = .ok (.aload_n 0, 1) := by decide +kernel
theorem dX9_init_11 : decode cX9_init 11 = .ok (.sipush 440, 3) := by decide +kernel
theorem dX9_init_14 : decode cX9_init 14 = .ok (.newarray .int, 2) := by decide +kernel
theorem dX9_init_16 : decode cX9_init 16 = .ok (.putfield 13, 3) := by decide +kernel
theorem dX9_init_19 : decode cX9_init 19 = .ok (.aload_n 0, 1) := by decide +kernel
theorem dX9_init_20 : decode cX9_init 20 = .ok (.bipush 100, 2) := by decide +kernel
theorem dX9_init_22 : decode cX9_init 22 = .ok (.newarray .int, 2) := by decide +kernel
theorem dX9_init_24 : decode cX9_init 24 = .ok (.putfield 17, 3) := by decide +kernel
theorem dX9_init_27 : decode cX9_init 27 = .ok (.aload_n 0, 1) := by decide +kernel
theorem dX9_init_28 : decode cX9_init 28 = .ok (.iconst 3, 1) := by decide +kernel
theorem dX9_init_29 : decode cX9_init 29 = .ok (.newarray .int, 2) := by decide +kernel
theorem dX9_init_31 : decode cX9_init 31 = .ok (.putfield 20, 3) := by decide +kernel
theorem dX9_init_34 : decode cX9_init 34 = .ok (.aload_n 0, 1) := by decide +kernel
theorem dX9_init_35 : decode cX9_init 35 = .ok (.bipush 43, 2) := by decide +kernel
theorem dX9_init_37 : decode cX9_init 37 = .ok (.newarray .int, 2) := by decide +kernel
theorem dX9_init_39 : decode cX9_init 39 = .ok (.putfield 23, 3) := by decide +kernel
theorem dX9_init_42 : decode cX9_init 42 = .ok (.aload_n 0, 1) := by decide +kernel
theorem dX9_init_43 : decode cX9_init 43 = .ok (.bipush 43, 2) := by decide +kernel
theorem dX9_init_45 : decode cX9_init 45 = .ok (.newarray .int, 2) := by decide +kernel
theorem dX9_init_47 : decode cX9_init 47 = .ok (.putfield 26, 3) := by decide +kernel
theorem dX9_init_50 : decode cX9_init 50 = .ok (.return_, 1) := by decide +kernel
theorem dX9_thrown_0 : decode cX9_thrown 0 = .ok (.aload_n 0, 1) := by decide +kernel
theorem dX9_thrown_1 : decode cX9_thrown 1 = .ok (.getfield 29, 3) := by decide +kernel
theorem dX9_thrown_4 : decode cX9_thrown 4 = .ok (.ireturn, 1) := by decide +kernel
theorem dX9_fail_0 : decode cX9_fail 0 = .ok (.aload_n 0, 1) := by decide +kernel
theorem dX9_fail_1 : decode cX9_fail 1 = .ok (.iload_n 1, 1) := by decide +kernel
theorem dX9_fail_2 : decode cX9_fail 2 = .ok (.putfield 29, 3) := by decide +kernel
theorem dX9_fail_5 : decode cX9_fail 5 = .ok (.iconst 0, 1) := by decide +kernel
theorem dX9_fail_6 : decode cX9_fail 6 = .ok (.ireturn, 1) := by decide +kernel
theorem dX9_isIn_0 : decode cX9_isIn 0 = .ok (.iload_n 0, 1) := by decide +kernel
theorem dX9_isIn_1 : decode cX9_isIn 1 = .ok (.iload_n 1, 1) := by decide +kernel
theorem dX9_isIn_2 : decode cX9_isIn 2 = .ok (.if_icmp .lt 12, 3) := by decide +kernel
theorem dX9_isIn_5 : decode cX9_isIn 5 = .ok (.iload_n 0, 1) := by decide +kernel
theorem dX9_isIn_6 : decode cX9_isIn 6 = .ok (.iload_n 2, 1) := by decide +kernel
theorem dX9_isIn_7 : decode cX9_isIn 7 = .ok (.if_icmp .gt 7, 3) := by decide +kernel
theorem dX9_isIn_10 : decode cX9_isIn 10 = .ok (.iconst 1, 1) := by decide +kernel
theorem dX9_isIn_11 : decode cX9_isIn 11 = .ok (.goto 4, 3) := by decide +kernel
theorem dX9_isIn_14 : decode cX9_isIn 14 = .ok (.iconst 0, 1) := by decide +kernel
theorem dX9_isIn_15 : decode cX9_isIn 15 = .ok (.ireturn, 1) := by decide +kernel
set_option maxRecDepth 20000 in
theorem ggX9_isObject_X9_isIn : GoodIn wsX9_isObject wsX9_isIn := goodIn_r _ [5] (by decide +kernel) (by decide +kernel)
set_option maxRecDepth 20000 in
theorem gX9_isObject_X9_isIn : GoodIn wsX9_isObject (va_wsS RX9 35 yX9_isIn wsX9_isIn) := goodIn_app (goodIn_of _ (by decide +kernel)) ggX9_isObject_X9_isIn
theorem dX9_isObject_0 : decode cX9_isObject 0 = .ok (.iload_n 1, 1) := by decide +kernel
theorem dX9_isObject_1 : decode cX9_isObject 1 = .ok (.iconst 0, 1) := by decide +kernel
theorem dX9_isObject_2 : decode cX9_isObject 2 = .ok (.aload_n 0, 1) := by decide +kernel
theorem dX9_isObject_3 : decode cX9_isObject 3 = .ok (.getfield 32, 3) := by decide +kernel
theorem dX9_isObject_6 : decode cX9_isObject 6 = .ok (.iconst 1, 1) := by decide +kernel
theorem dX9_isObject_7 : decode cX9_isObject 7 = .ok (.isub, 1) := by decide +kernel
theorem dX9_isObject_8 : decode cX9_isObject 8 = .ok (.invokestatic 35, 3) := by decide +kernel
theorem dX9_isObject_11 : decode cX9_isObject 11 = .ok (.ireturn, 1) := by decide +kernel
theorem dX9_get_0 : decode cX9_get 0 = .ok (.aload_n 0, 1) := by decide +kernel
theorem dX9_get_1 : decode cX9_get 1 = .ok (.getfield 13, 3) := by decide +kernel
theorem dX9_get_4 : decode cX9_get 4 = .ok (.bipush 11, 2) := by decide +kernel
theorem dX9_get_6 : decode cX9_get 6 = .ok (.iload_n 1, 1) := by decide +kernel
theorem dX9_get_7 : decode cX9_get 7 = .ok (.imul, 1) := by decide +kernel
theorem dX9_get_8 : decode cX9_get 8 = .ok (.iload_n 2, 1) := by decide +kernel
theorem dX9_get_9 : decode cX9_get 9 = .ok (.iadd, 1) := by decide +kernel
theorem dX9_get_10 : decode cX9_get 10 = .ok (.iaload, 1) := by decide +kernel
theorem dX9_get_11 : decode cX9_get 11 = .ok (.ireturn, 1) := by decide +kernel
set_option maxRecDepth 20000 in
theorem ggX9_sort_X9_get : GoodIn wsX9_sort wsX9_get := goodIn_r _ [5, 6, 7, 8, 9, 10, 11, 12, 13, 14, 15, 16] (by decide +kernel) (by decide +kernel)
set_option maxRecDepth 20000 in
theorem gX9_sort_X9_get : GoodIn wsX9_sort (wsV RX9 39 RX9 yX9_get wsX9_get) := goodIn_app (goodIn_of _ (by decide +kernel)) ggX9_sort_X9_get
theorem dX9_sort_0 : decode cX9_sort 0 = .ok (.aload_n 0, 1) := by decide +kernel
theorem dX9_sort_1 : decode cX9_sort 1 = .ok (.iload_n 1, 1) := by decide +kernel
theorem dX9_sort_2 : decode cX9_sort 2 = .ok (.iconst 0, 1) := by decide +kernel
theorem dX9_sort_3 : decode cX9_sort 3 = .ok (.invokevirtual 39, 3) := by decide +kernel
theorem dX9_sort_6 : decode cX9_sort 6 = .ok (.ireturn, 1) := by decide +kernel
set_option maxRecDepth 20000 in
theorem ggX9_lacks_X9_get : GoodIn wsX9_lacks wsX9_get := goodIn_r _ [5, 6, 7, 8, 9, 10, 11, 12, 13, 14, 15, 16] (by decide +kernel) (by decide +kernel)
set_option maxRecDepth 20000 in
theorem gX9_lacks_X9_get : GoodIn wsX9_lacks (wsV RX9 39 RX9 yX9_get wsX9_get) := goodIn_app (goodIn_of _ (by decide +kernel)) ggX9_lacks_X9_get
theorem dX9_lacks_0 : decode cX9_lacks 0 = .ok (.aload_n 0, 1) := by decide +kernel
theorem dX9_lacks_1 : decode cX9_lacks 1 = .ok (.iload_n 1, 1) := by decide +kernel
theorem dX9_lacks_2 : decode cX9_lacks 2 = .ok (.bipush 7, 2) := by decide +kernel
theorem dX9_lacks_4 : decode cX9_lacks 4 = .ok (.invokevirtual 39, 3) := by decide +kernel
theorem dX9_lacks_7 : decode cX9_lacks 7 = .ok (.iconst 1, 1) := by decide +kernel
theorem dX9_lacks_8 : decode cX9_lacks 8 = .ok (.if_icmp .ne 7, 3) := by decide +kernel
theorem dX9_lacks_11 : decode cX9_lacks 11 = .ok (.iconst 1, 1) := by decide +kernel
theorem dX9_lacks_12 : decode cX9_lacks 12 = .ok (.goto 4, 3) := by decide +kernel
theorem dX9_lacks_15 : decode cX9_lacks 15 = .ok (.iconst 0, 1) := by decide +kernel
theorem dX9_lacks_16 : decode cX9_lacks 16 = .ok (.ireturn, 1) := by decide +kernel
set_option maxRecDepth 20000 in
theorem ggX9_x_X9_get : GoodIn wsX9_x wsX9_get := goodIn_r _ [5, 6, 7, 8, 9, 10, 11, 12, 13, 14, 15, 16] (by decide +kernel) (by decide +kernel)
set_option maxRecDepth 20000 in
theorem gX9_x_X9_get : GoodIn wsX9_x (wsV RX9 39 RX9 yX9_get wsX9_get) := goodIn_app (goodIn_of _ (by decide +kernel)) ggX9_x_X9_get
theorem dX9_x_0 : decode cX9_x 0 = .ok (.aload_n 0, 1) := by decide +kernel
theorem dX9_x_1 : decode cX9_x 1 = .ok (.iload_n 1, 1) := by decide +kernel
theorem dX9_x_2 : decode cX9_x 2 = .ok (.bipush 8, 2) := by decide +kernel
theorem dX9_x_4 : decode cX9_x 4 = .ok (.invokevirtual 39, 3) := by decide +kernel
theorem dX9_x_7 : decode cX9_x 7 = .ok (.ireturn, 1) := by decide +kernel
set_option maxRecDepth 20000 in
theorem ggX9_y_X9_get : GoodIn wsX9_y wsX9_get := goodIn_r _ [5, 6, 7, 8, 9, 10, 11, 12, 13, 14, 15, 16] (by decide +kernel) (by decide +kernel)
set_option maxRecDepth 20000 in
theorem gX9_y_X9_get : GoodIn wsX9_y (wsV RX9 39 RX9 yX9_get wsX9_get) := goodIn_app (goodIn_of _ (by decide +kernel)) ggX9_y_X9_get
theorem dX9_y_0 : decode cX9_y 0 = .ok (.aload_n 0, 1) := by decide +kernel
theorem dX9_y_1 : decode cX9_y 1 = .ok (.iload_n 1, 1) := by decide +kernel
theorem dX9_y_2 : decode cX9_y 2 = .ok (.bipush 9, 2) := by decide +kernel
theorem dX9_y_4 : decode cX9_y 4 = .ok (.invokevirtual 39, 3) := by decide +kernel
theorem dX9_y_7 : decode cX9_y 7 = .ok (.ireturn, 1) := by decide +kernel
set_option maxRecDepth 20000 in
theorem ggX9_z_X9_get : GoodIn wsX9_z wsX9_get := goodIn_r _ [5, 6, 7, 8, 9, 10, 11, 12, 13, 14, 15, 16] (by decide +kernel) (by decide +kernel)
set_option maxRecDepth 20000 in
theorem gX9_z_X9_get : GoodIn wsX9_z (wsV RX9 39 RX9 yX9_get wsX9_get) := goodIn_app (goodIn_of _ (by decide +kernel)) ggX9_z_X9_get
theorem dX9_z_0 : decode cX9_z 0 = .ok (.aload_n 0, 1) := by decide +kernel
theorem dX9_z_1 : decode cX9_z 1 = .ok (.iload_n 1, 1) := by decide +kernel
theorem dX9_z_2 : decode cX9_z 2 = .ok (.bipush 10, 2) := by decide +kernel
theorem dX9_z_4 : decode cX9_z 4 = .ok (.invokevirtual 39, 3) := by decide +kernel
theorem dX9_z_7 : decode cX9_z 7 = .ok (.ireturn, 1) := by decide +kernel
set_option maxRecDepth 20000 in
theorem ggX9_mod_J9_floorMod_7cf53 : GoodIn wsX9_mod wsJ9_floorMod_7cf53 := goodIn_r _ [5] (by decide +kernel) (by decide +kernel)
set_option maxRecDepth 20000 in
theorem gX9_mod_J9_floorMod_7cf53 : GoodIn wsX9_mod (va_wsS RX9 43 yJ9_floorMod_7cf53 wsJ9_floorMod_7cf53) := goodIn_app (goodIn_of _ (by decide +kernel)) ggX9_mod_J9_floorMod_7cf53
theorem dX9_mod_0 : decode cX9_mod 0 = .ok (.iload_n 1, 1) := by decide +kernel
theorem dX9_mod_1 : decode cX9_mod 1 = .ok (.aload_n 0, 1) := by decide +kernel
theorem dX9_mod_2 : decode cX9_mod 2 = .ok (.getfield 7, 3) := by decide +kernel
theorem dX9_mod_5 : decode cX9_mod 5 = .ok (.invokestatic 43, 3) := by decide +kernel
theorem dX9_mod_8 : decode cX9_mod 8 = .ok (.ireturn, 1) := by decide +kernel
theorem dX9_opposite_0 : decode cX9_opposite 0 = .ok (.iconst 1, 1) := by decide +kernel
theorem dX9_opposite_1 : decode cX9_opposite 1 = .ok (.istore_n 2, 1) := by decide +kernel
theorem dX9_opposite_2 : decode cX9_opposite 2 = .ok (.iload_n 2, 1) := by decide +kernel
theorem dX9_opposite_3 : decode cX9_opposite 3 = .ok (.iload_n 1, 1) := by decide +kernel
theorem dX9_opposite_4 : decode cX9_opposite 4 = .ok (.imul, 1) := by decide +kernel
theorem dX9_opposite_5 : decode cX9_opposite 5 = .ok (.aload_n 0, 1) := by decide +kernel
theorem dX9_opposite_6 : decode cX9_opposite 6 = .ok (.getfield 7, 3) := by decide +kernel
theorem dX9_opposite_9 : decode cX9_opposite 9 = .ok (.irem, 1) := by decide +kernel
theorem dX9_opposite_10 : decode cX9_opposite 10 = .ok (.iconst 1, 1) := by decide +kernel
theorem dX9_opposite_11 : decode cX9_opposite 11 = .ok (.if_icmp .eq 9, 3) := by decide +kernel
theorem dX9_opposite_14 : decode cX9_opposite 14 = .ok (.iinc 2 1, 3) := by decide +kernel
theorem dX9_opposite_17 : decode cX9_opposite 17 = .ok (.goto (-15), 3) := by decide +kernel
theorem dX9_opposite_20 : decode cX9_opposite 20 = .ok (.iload_n 2, 1) := by decide +kernel
theorem dX9_opposite_21 : decode cX9_opposite 21 = .ok (.ireturn, 1) := by decide +kernel
set_option maxRecDepth 20000 in
theorem ggX9_squareOf_X9_mod : GoodIn wsX9_squareOf wsX9_mod := goodIn_r _ [5, 6, 7, 8, 9, 10, 11, 12, 13, 14, 15, 16, 17, 18, 19, 20] (by decide +kernel) (by decide +kernel)
set_option maxRecDepth 20000 in
theorem gX9_squareOf_X9_mod : GoodIn wsX9_squareOf (wsV RX9 48 RX9 yX9_mod wsX9_mod) := goodIn_app (goodIn_of _ (by decide +kernel)) ggX9_squareOf_X9_mod
theorem dX9_squareOf_0 : decode cX9_squareOf 0 = .ok (.aload_n 0, 1) := by decide +kernel
theorem dX9_squareOf_1 : decode cX9_squareOf 1 = .ok (.iload_n 1, 1) := by decide +kernel
theorem dX9_squareOf_2 : decode cX9_squareOf 2 = .ok (.iload_n 3, 1) := by decide +kernel
theorem dX9_squareOf_3 : decode cX9_squareOf 3 = .ok (.isub, 1) := by decide +kernel
theorem dX9_squareOf_4 : decode cX9_squareOf 4 = .ok (.iload_n 1, 1) := by decide +kernel
theorem dX9_squareOf_5 : decode cX9_squareOf 5 = .ok (.iload_n 3, 1) := by decide +kernel
theorem dX9_squareOf_6 : decode cX9_squareOf 6 = .ok (.isub, 1) := by decide +kernel
theorem dX9_squareOf_7 : decode cX9_squareOf 7 = .ok (.imul, 1) := by decide +kernel
theorem dX9_squareOf_8 : decode cX9_squareOf 8 = .ok (.iload_n 2, 1) := by decide +kernel
theorem dX9_squareOf_9 : decode cX9_squareOf 9 = .ok (.iload 4, 2) := by decide +kernel
theorem dX9_squareOf_11 : decode cX9_squareOf 11 = .ok (.isub, 1) := by decide +kernel
theorem dX9_squareOf_12 : decode cX9_squareOf 12 = .ok (.iload_n 2, 1) := by decide +kernel
theorem dX9_squareOf_13 : decode cX9_squareOf 13 = .ok (.iload 4, 2) := by decide +kernel
theorem dX9_squareOf_15 : decode cX9_squareOf 15 = .ok (.isub, 1) := by decide +kernel
theorem dX9_squareOf_16 : decode cX9_squareOf 16 = .ok (.imul, 1) := by decide +kernel
theorem dX9_squareOf_17 : decode cX9_squareOf 17 = .ok (.iadd, 1) := by decide +kernel
theorem dX9_squareOf_18 : decode cX9_squareOf 18 = .ok (.invokevirtual 48, 3) := by decide +kernel
theorem dX9_squareOf_21 : decode cX9_squareOf 21 = .ok (.ireturn, 1) := by decide +kernel
set_option maxRecDepth 20000 in
theorem ggX9_begin_X9_fail : GoodIn wsX9_begin wsX9_fail := goodIn_r _ [9, 1, 10, 11, 12, 13, 14, 15, 16, 17, 18, 19] (by decide +kernel) (by decide +kernel)
set_option maxRecDepth 20000 in
theorem gX9_begin_X9_fail : GoodIn wsX9_begin (wsV RX9 52 RX9 yX9_fail wsX9_fail) := goodIn_app (goodIn_of _ (by decide +kernel)) ggX9_begin_X9_fail
theorem dX9_begin_0 : decode cX9_begin 0 = .ok (.aload_n 0, 1) := by decide +kernel
theorem dX9_begin_1 : decode cX9_begin 1 = .ok (.iconst 0, 1) := by decide +kernel
theorem dX9_begin_2 : decode cX9_begin 2 = .ok (.putfield 29, 3) := by decide +kernel
theorem dX9_begin_5 : decode cX9_begin 5 = .ok (.iload_n 1, 1) := by decide +kernel
theorem dX9_begin_6 : decode cX9_begin 6 = .ok (.bipush 7, 2) := by decide +kernel
theorem dX9_begin_8 : decode cX9_begin 8 = .ok (.if_icmp .eq 33, 3) := by decide +kernel
theorem dX9_begin_11 : decode cX9_begin 11 = .ok (.iload_n 1, 1) := by decide +kernel
theorem dX9_begin_12 : decode cX9_begin 12 = .ok (.bipush 11, 2) := by decide +kernel
theorem dX9_begin_14 : decode cX9_begin 14 = .ok (.if_icmp .eq 27, 3) := by decide +kernel
theorem dX9_begin_17 : decode cX9_begin 17 = .ok (.iload_n 1, 1) := by decide +kernel
theorem dX9_begin_18 : decode cX9_begin 18 = .ok (.bipush 19, 2) := by decide +kernel
theorem dX9_begin_20 : decode cX9_begin 20 = .ok (.if_icmp .eq 21, 3) := by decide +kernel
theorem dX9_begin_23 : decode cX9_begin 23 = .ok (.iload_n 1, 1) := by decide +kernel
theorem dX9_begin_24 : decode cX9_begin 24 = .ok (.bipush 23, 2) := by decide +kernel
theorem dX9_begin_26 : decode cX9_begin 26 = .ok (.if_icmp .eq 15, 3) := by decide +kernel
theorem dX9_begin_29 : decode cX9_begin 29 = .ok (.iload_n 1, 1) := by decide +kernel
theorem dX9_begin_30 : decode cX9_begin 30 = .ok (.bipush 31, 2) := by decide +kernel
theorem dX9_begin_32 : decode cX9_begin 32 = .ok (.if_icmp .eq 9, 3) := by decide +kernel
theorem dX9_begin_35 : decode cX9_begin 35 = .ok (.iload_n 1, 1) := by decide +kernel
theorem dX9_begin_36 : decode cX9_begin 36 = .ok (.bipush 43, 2) := by decide +kernel
theorem dX9_begin_38 : decode cX9_begin 38 = .ok (.if_icmp .ne 7, 3) := by decide +kernel
theorem dX9_begin_41 : decode cX9_begin 41 = .ok (.iconst 1, 1) := by decide +kernel
theorem dX9_begin_42 : decode cX9_begin 42 = .ok (.goto 4, 3) := by decide +kernel
theorem dX9_begin_45 : decode cX9_begin 45 = .ok (.iconst 0, 1) := by decide +kernel
theorem dX9_begin_46 : decode cX9_begin 46 = .ok (.istore_n 2, 1) := by decide +kernel
theorem dX9_begin_47 : decode cX9_begin 47 = .ok (.iload_n 2, 1) := by decide +kernel
theorem dX9_begin_48 : decode cX9_begin 48 = .ok (.ifCond .ne 9, 3) := by decide +kernel
theorem dX9_begin_51 : decode cX9_begin 51 = .ok (.aload_n 0, 1) := by decide +kernel
theorem dX9_begin_52 : decode cX9_begin 52 = .ok (.iconst 1, 1) := by decide +kernel
theorem dX9_begin_53 : decode cX9_begin 53 = .ok (.invokevirtual 52, 3) := by decide +kernel
theorem dX9_begin_56 : decode cX9_begin 56 = .ok (.ireturn, 1) := by decide +kernel
theorem dX9_begin_57 : decode cX9_begin 57 = .ok (.aload_n 0, 1) := by decide +kernel
theorem dX9_begin_58 : decode cX9_begin 58 = .ok (.iload_n 1, 1) := by decide +kernel
theorem dX9_begin_59 : decode cX9_begin 59 = .ok (.putfield 7, 3) := by decide +kernel
theorem dX9_begin_62 : decode cX9_begin 62 = .ok (.aload_n 0, 1) := by decide +kernel
theorem dX9_begin_63 : decode cX9_begin 63 = .ok (.iconst 0, 1) := by decide +kernel
theorem dX9_begin_64 : decode cX9_begin 64 = .ok (.putfield 32, 3) := by decide +kernel
theorem dX9_begin_67 : decode cX9_begin 67 = .ok (.aload_n 0, 1) := by decide +kernel
theorem dX9_begin_68 : decode cX9_begin 68 = .ok (.iconst 0, 1) := by decide +kernel
theorem dX9_begin_69 : decode cX9_begin 69 = .ok (.putfield 55, 3) := by decide +kernel
theorem dX9_begin_72 : decode cX9_begin 72 = .ok (.aload_n 0, 1) := by decide +kernel
theorem dX9_begin_73 : decode cX9_begin 73 = .ok (.getfield 7, 3) := by decide +kernel
theorem dX9_begin_76 : decode cX9_begin 76 = .ok (.aload_n 0, 1) := by decide +kernel
theorem dX9_begin_77 : decode cX9_begin 77 = .ok (.getfield 7, 3) := by decide +kernel
theorem dX9_begin_80 : decode cX9_begin 80 = .ok (.imul, 1) := by decide +kernel
theorem dX9_begin_81 : decode cX9_begin 81 = .ok (.ireturn, 1) := by decide +kernel
set_option maxRecDepth 20000 in
theorem ggX9_inverse_X9_isIn : GoodIn wsX9_inverse wsX9_isIn := goodIn_r _ [6] (by decide +kernel) (by decide +kernel)
set_option maxRecDepth 20000 in
theorem gX9_inverse_X9_isIn : GoodIn wsX9_inverse (va_wsS RX9 35 yX9_isIn wsX9_isIn) := goodIn_app (goodIn_of _ (by decide +kernel)) ggX9_inverse_X9_isIn
set_option maxRecDepth 20000 in
theorem ggX9_inverse_X9_opposite : GoodIn wsX9_inverse wsX9_opposite := goodIn_r _ [10, 2, 15, 16, 17, 18, 19, 20, 21, 22, 23, 24] (by decide +kernel) (by decide +kernel)
set_option maxRecDepth 20000 in
theorem gX9_inverse_X9_opposite : GoodIn wsX9_inverse (wsV RX9 58 RX9 yX9_opposite wsX9_opposite) := goodIn_app (goodIn_of _ (by decide +kernel)) ggX9_inverse_X9_opposite
set_option maxRecDepth 20000 in
theorem ggX9_inverse_X9_fail : GoodIn wsX9_inverse wsX9_fail := goodIn_r _ [14, 1, 15, 16, 17, 18, 19, 20, 21, 22, 23, 24] (by decide +kernel) (by decide +kernel)
set_option maxRecDepth 20000 in
theorem gX9_inverse_X9_fail : GoodIn wsX9_inverse (wsV RX9 52 RX9 yX9_fail wsX9_fail) := goodIn_app (goodIn_of _ (by decide +kernel)) ggX9_inverse_X9_fail
theorem dX9_inverse_0 : decode cX9_inverse 0 = .ok (.aload_n 0, 1) := by decide +kernel
theorem dX9_inverse_1 : decode cX9_inverse 1 = .ok (.iconst 0, 1) := by decide +kernel
theorem dX9_inverse_2 : decode cX9_inverse 2 = .ok (.putfield 29, 3) := by decide +kernel
theorem dX9_inverse_5 : decode cX9_inverse 5 = .ok (.iload_n 1, 1) := by decide +kernel
theorem dX9_inverse_6 : decode cX9_inverse 6 = .ok (.iconst 1, 1) := by decide +kernel
theorem dX9_inverse_7 : decode cX9_inverse 7 = .ok (.aload_n 0, 1) := by decide +kernel
theorem dX9_inverse_8 : decode cX9_inverse 8 = .ok (.getfield 7, 3) := by decide +kernel
theorem dX9_inverse_11 : decode cX9_inverse 11 = .ok (.iconst 1, 1) := by decide +kernel
theorem dX9_inverse_12 : decode cX9_inverse 12 = .ok (.isub, 1) := by decide +kernel
theorem dX9_inverse_13 : decode cX9_inverse 13 = .ok (.invokestatic 35, 3) := by decide +kernel
theorem dX9_inverse_16 : decode cX9_inverse 16 = .ok (.ifCond .eq 11, 3) := by decide +kernel
theorem dX9_inverse_19 : decode cX9_inverse 19 = .ok (.aload_n 0, 1) := by decide +kernel
theorem dX9_inverse_20 : decode cX9_inverse 20 = .ok (.iload_n 1, 1) := by decide +kernel
theorem dX9_inverse_21 : decode cX9_inverse 21 = .ok (.invokevirtual 58, 3) := by decide +kernel
theorem dX9_inverse_24 : decode cX9_inverse 24 = .ok (.goto 8, 3) := by decide +kernel
theorem dX9_inverse_27 : decode cX9_inverse 27 = .ok (.aload_n 0, 1) := by decide +kernel
theorem dX9_inverse_28 : decode cX9_inverse 28 = .ok (.iconst 1, 1) := by decide +kernel
theorem dX9_inverse_29 : decode cX9_inverse 29 = .ok (.invokevirtual 52, 3) := by decide +kernel
theorem dX9_inverse_32 : decode cX9_inverse 32 = .ok (.ireturn, 1) := by decide +kernel
set_option maxRecDepth 20000 in
theorem ggX9_root_X9_isIn : GoodIn wsX9_root wsX9_isIn := goodIn_r _ [6] (by decide +kernel) (by decide +kernel)
set_option maxRecDepth 20000 in
theorem gX9_root_X9_isIn : GoodIn wsX9_root (va_wsS RX9 35 yX9_isIn wsX9_isIn) := goodIn_app (goodIn_of _ (by decide +kernel)) ggX9_root_X9_isIn
set_option maxRecDepth 20000 in
theorem ggX9_root_X9_fail : GoodIn wsX9_root wsX9_fail := goodIn_r _ [10, 1, 11, 12, 13, 14, 15, 16, 17, 18, 19, 20] (by decide +kernel) (by decide +kernel)
set_option maxRecDepth 20000 in
theorem gX9_root_X9_fail : GoodIn wsX9_root (wsV RX9 52 RX9 yX9_fail wsX9_fail) := goodIn_app (goodIn_of _ (by decide +kernel)) ggX9_root_X9_fail
theorem dX9_root_0 : decode cX9_root 0 = .ok (.aload_n 0, 1) := by decide +kernel
theorem dX9_root_1 : decode cX9_root 1 = .ok (.iconst 0, 1) := by decide +kernel
theorem dX9_root_2 : decode cX9_root 2 = .ok (.putfield 29, 3) := by decide +kernel
theorem dX9_root_5 : decode cX9_root 5 = .ok (.iload_n 1, 1) := by decide +kernel
theorem dX9_root_6 : decode cX9_root 6 = .ok (.iconst 0, 1) := by decide +kernel
theorem dX9_root_7 : decode cX9_root 7 = .ok (.aload_n 0, 1) := by decide +kernel
theorem dX9_root_8 : decode cX9_root 8 = .ok (.getfield 7, 3) := by decide +kernel
theorem dX9_root_11 : decode cX9_root 11 = .ok (.iconst 1, 1) := by decide +kernel
theorem dX9_root_12 : decode cX9_root 12 = .ok (.isub, 1) := by decide +kernel
theorem dX9_root_13 : decode cX9_root 13 = .ok (.invokestatic 35, 3) := by decide +kernel
theorem dX9_root_16 : decode cX9_root 16 = .ok (.ifCond .ne 9, 3) := by decide +kernel
theorem dX9_root_19 : decode cX9_root 19 = .ok (.aload_n 0, 1) := by decide +kernel
theorem dX9_root_20 : decode cX9_root 20 = .ok (.iconst 1, 1) := by decide +kernel
theorem dX9_root_21 : decode cX9_root 21 = .ok (.invokevirtual 52, 3) := by decide +kernel
theorem dX9_root_24 : decode cX9_root 24 = .ok (.ireturn, 1) := by decide +kernel
theorem dX9_root_25 : decode cX9_root 25 = .ok (.iconst 0, 1) := by decide +kernel
theorem dX9_root_26 : decode cX9_root 26 = .ok (.istore_n 2, 1) := by decide +kernel
theorem dX9_root_27 : decode cX9_root 27 = .ok (.iload_n 2, 1) := by decide +kernel
theorem dX9_root_28 : decode cX9_root 28 = .ok (.aload_n 0, 1) := by decide +kernel
theorem dX9_root_29 : decode cX9_root 29 = .ok (.getfield 7, 3) := by decide +kernel
theorem dX9_root_32 : decode cX9_root 32 = .ok (.if_icmp .ge 21, 3) := by decide +kernel
theorem dX9_root_35 : decode cX9_root 35 = .ok (.iload_n 2, 1) := by decide +kernel
theorem dX9_root_36 : decode cX9_root 36 = .ok (.iload_n 2, 1) := by decide +kernel
theorem dX9_root_37 : decode cX9_root 37 = .ok (.imul, 1) := by decide +kernel
theorem dX9_root_38 : decode cX9_root 38 = .ok (.aload_n 0, 1) := by decide +kernel
theorem dX9_root_39 : decode cX9_root 39 = .ok (.getfield 7, 3) := by decide +kernel
theorem dX9_root_42 : decode cX9_root 42 = .ok (.irem, 1) := by decide +kernel
theorem dX9_root_43 : decode cX9_root 43 = .ok (.iload_n 1, 1) := by decide +kernel
theorem dX9_root_44 : decode cX9_root 44 = .ok (.if_icmp .eq 9, 3) := by decide +kernel
theorem dX9_root_47 : decode cX9_root 47 = .ok (.iinc 2 1, 3) := by decide +kernel
theorem dX9_root_50 : decode cX9_root 50 = .ok (.goto (-23), 3) := by decide +kernel
theorem dX9_root_53 : decode cX9_root 53 = .ok (.iload_n 2, 1) := by decide +kernel
theorem dX9_root_54 : decode cX9_root 54 = .ok (.aload_n 0, 1) := by decide +kernel
theorem dX9_root_55 : decode cX9_root 55 = .ok (.getfield 7, 3) := by decide +kernel
theorem dX9_root_58 : decode cX9_root 58 = .ok (.if_icmp .ge 7, 3) := by decide +kernel
theorem dX9_root_61 : decode cX9_root 61 = .ok (.iload_n 2, 1) := by decide +kernel
theorem dX9_root_62 : decode cX9_root 62 = .ok (.goto 4, 3) := by decide +kernel
theorem dX9_root_65 : decode cX9_root 65 = .ok (.iconst (-1), 1) := by decide +kernel
theorem dX9_root_66 : decode cX9_root 66 = .ok (.ireturn, 1) := by decide +kernel
set_option maxRecDepth 20000 in
theorem ggX9_lay_X9_mod : GoodIn wsX9_lay wsX9_mod := goodIn_r _ [6, 7, 8, 9, 10, 11, 12, 13, 14, 15, 16, 17, 18, 19, 20, 21] (by decide +kernel) (by decide +kernel)
set_option maxRecDepth 20000 in
theorem gX9_lay_X9_mod : GoodIn wsX9_lay (wsV RX9 48 RX9 yX9_mod wsX9_mod) := goodIn_app (goodIn_of _ (by decide +kernel)) ggX9_lay_X9_mod
theorem dX9_lay_0 : decode cX9_lay 0 = .ok (.aload_n 0, 1) := by decide +kernel
theorem dX9_lay_1 : decode cX9_lay 1 = .ok (.getfield 20, 3) := by decide +kernel
theorem dX9_lay_4 : decode cX9_lay 4 = .ok (.iconst 0, 1) := by decide +kernel
theorem dX9_lay_5 : decode cX9_lay 5 = .ok (.aload_n 0, 1) := by decide +kernel
theorem dX9_lay_6 : decode cX9_lay 6 = .ok (.iload_n 1, 1) := by decide +kernel
theorem dX9_lay_7 : decode cX9_lay 7 = .ok (.invokevirtual 48, 3) := by decide +kernel
theorem dX9_lay_10 : decode cX9_lay 10 = .ok (.iastore, 1) := by decide +kernel
theorem dX9_lay_11 : decode cX9_lay 11 = .ok (.aload_n 0, 1) := by decide +kernel
theorem dX9_lay_12 : decode cX9_lay 12 = .ok (.getfield 20, 3) := by decide +kernel
theorem dX9_lay_15 : decode cX9_lay 15 = .ok (.iconst 1, 1) := by decide +kernel
theorem dX9_lay_16 : decode cX9_lay 16 = .ok (.aload_n 0, 1) := by decide +kernel
theorem dX9_lay_17 : decode cX9_lay 17 = .ok (.iload_n 2, 1) := by decide +kernel
theorem dX9_lay_18 : decode cX9_lay 18 = .ok (.invokevirtual 48, 3) := by decide +kernel
theorem dX9_lay_21 : decode cX9_lay 21 = .ok (.iastore, 1) := by decide +kernel
theorem dX9_lay_22 : decode cX9_lay 22 = .ok (.aload_n 0, 1) := by decide +kernel
theorem dX9_lay_23 : decode cX9_lay 23 = .ok (.getfield 20, 3) := by decide +kernel
theorem dX9_lay_26 : decode cX9_lay 26 = .ok (.iconst 2, 1) := by decide +kernel
theorem dX9_lay_27 : decode cX9_lay 27 = .ok (.aload_n 0, 1) := by decide +kernel
theorem dX9_lay_28 : decode cX9_lay 28 = .ok (.iload_n 3, 1) := by decide +kernel
theorem dX9_lay_29 : decode cX9_lay 29 = .ok (.invokevirtual 48, 3) := by decide +kernel
theorem dX9_lay_32 : decode cX9_lay 32 = .ok (.iastore, 1) := by decide +kernel
theorem dX9_lay_33 : decode cX9_lay 33 = .ok (.iconst 1, 1) := by decide +kernel
theorem dX9_lay_34 : decode cX9_lay 34 = .ok (.ireturn, 1) := by decide +kernel
set_option maxRecDepth 20000 in
theorem ggX9_layLine_X9_mod : GoodIn wsX9_layLine wsX9_mod := goodIn_r _ [5, 6, 7, 8, 9, 10, 20, 21, 22, 23, 24, 25, 26, 27, 28, 29] (by decide +kernel) (by decide +kernel)
set_option maxRecDepth 20000 in
theorem gX9_layLine_X9_mod : GoodIn wsX9_layLine (wsV RX9 48 RX9 yX9_mod wsX9_mod) := goodIn_app (goodIn_of _ (by decide +kernel)) ggX9_layLine_X9_mod
set_option maxRecDepth 20000 in
theorem ggX9_layLine_X9_opposite : GoodIn wsX9_layLine wsX9_opposite := goodIn_r _ [14, 6, 20, 21, 22, 23, 24, 25, 26, 27, 28, 29] (by decide +kernel) (by decide +kernel)
set_option maxRecDepth 20000 in
theorem gX9_layLine_X9_opposite : GoodIn wsX9_layLine (wsV RX9 58 RX9 yX9_opposite wsX9_opposite) := goodIn_app (goodIn_of _ (by decide +kernel)) ggX9_layLine_X9_opposite
set_option maxRecDepth 20000 in
theorem ggX9_layLine_X9_lay : GoodIn wsX9_layLine wsX9_lay := goodIn_r _ [18, 19, 1, 2, 3, 4, 5, 6, 7, 8, 9, 10, 20, 21, 22, 23, 24, 25, 26, 27, 28, 29] (by decide +kernel) (by decide +kernel)
set_option maxRecDepth 20000 in
theorem gX9_layLine_X9_lay : GoodIn wsX9_layLine (wsV RX9 61 RX9 yX9_lay wsX9_lay) := goodIn_app (goodIn_of _ (by decide +kernel)) ggX9_layLine_X9_lay
theorem dX9_layLine_0 : decode cX9_layLine 0 = .ok (.aload_n 0, 1) := by decide +kernel
theorem dX9_layLine_1 : decode cX9_layLine 1 = .ok (.iload_n 1, 1) := by decide +kernel
theorem dX9_layLine_2 : decode cX9_layLine 2 = .ok (.invokevirtual 48, 3) := by decide +kernel
theorem dX9_layLine_5 : decode cX9_layLine 5 = .ok (.ifCond .eq 11, 3) := by decide +kernel
theorem dX9_layLine_8 : decode cX9_layLine 8 = .ok (.aload_n 0, 1) := by decide +kernel
theorem dX9_layLine_9 : decode cX9_layLine 9 = .ok (.iload_n 1, 1) := by decide +kernel
theorem dX9_layLine_10 : decode cX9_layLine 10 = .ok (.invokevirtual 48, 3) := by decide +kernel
theorem dX9_layLine_13 : decode cX9_layLine 13 = .ok (.goto 8, 3) := by decide +kernel
theorem dX9_layLine_16 : decode cX9_layLine 16 = .ok (.aload_n 0, 1) := by decide +kernel
theorem dX9_layLine_17 : decode cX9_layLine 17 = .ok (.iload_n 2, 1) := by decide +kernel
theorem dX9_layLine_18 : decode cX9_layLine 18 = .ok (.invokevirtual 48, 3) := by decide +kernel
theorem dX9_layLine_21 : decode cX9_layLine 21 = .ok (.istore 4, 2) := by decide +kernel
theorem dX9_layLine_23 : decode cX9_layLine 23 = .ok (.iload 4, 2) := by decide +kernel
theorem dX9_layLine_25 : decode cX9_layLine 25 = .ok (.ifCond .ne 5, 3) := by decide +kernel
theorem dX9_layLine_28 : decode cX9_layLine 28 = .ok (.iconst 0, 1) := by decide +kernel
theorem dX9_layLine_29 : decode cX9_layLine 29 = .ok (.ireturn, 1) := by decide +kernel
theorem dX9_layLine_30 : decode cX9_layLine 30 = .ok (.aload_n 0, 1) := by decide +kernel
theorem dX9_layLine_31 : decode cX9_layLine 31 = .ok (.iload 4, 2) := by decide +kernel
theorem dX9_layLine_33 : decode cX9_layLine 33 = .ok (.invokevirtual 58, 3) := by decide +kernel
theorem dX9_layLine_36 : decode cX9_layLine 36 = .ok (.istore 5, 2) := by decide +kernel
theorem dX9_layLine_38 : decode cX9_layLine 38 = .ok (.aload_n 0, 1) := by decide +kernel
theorem dX9_layLine_39 : decode cX9_layLine 39 = .ok (.aload_n 0, 1) := by decide +kernel
theorem dX9_layLine_40 : decode cX9_layLine 40 = .ok (.iload_n 1, 1) := by decide +kernel
theorem dX9_layLine_41 : decode cX9_layLine 41 = .ok (.invokevirtual 48, 3) := by decide +kernel
theorem dX9_layLine_44 : decode cX9_layLine 44 = .ok (.iload 5, 2) := by decide +kernel
theorem dX9_layLine_46 : decode cX9_layLine 46 = .ok (.imul, 1) := by decide +kernel
theorem dX9_layLine_47 : decode cX9_layLine 47 = .ok (.aload_n 0, 1) := by decide +kernel
theorem dX9_layLine_48 : decode cX9_layLine 48 = .ok (.iload_n 2, 1) := by decide +kernel
theorem dX9_layLine_49 : decode cX9_layLine 49 = .ok (.invokevirtual 48, 3) := by decide +kernel
theorem dX9_layLine_52 : decode cX9_layLine 52 = .ok (.iload 5, 2) := by decide +kernel
theorem dX9_layLine_54 : decode cX9_layLine 54 = .ok (.imul, 1) := by decide +kernel
theorem dX9_layLine_55 : decode cX9_layLine 55 = .ok (.aload_n 0, 1) := by decide +kernel
theorem dX9_layLine_56 : decode cX9_layLine 56 = .ok (.iload_n 3, 1) := by decide +kernel
theorem dX9_layLine_57 : decode cX9_layLine 57 = .ok (.invokevirtual 48, 3) := by decide +kernel
theorem dX9_layLine_60 : decode cX9_layLine 60 = .ok (.iload 5, 2) := by decide +kernel
theorem dX9_layLine_62 : decode cX9_layLine 62 = .ok (.imul, 1) := by decide +kernel
theorem dX9_layLine_63 : decode cX9_layLine 63 = .ok (.invokevirtual 61, 3) := by decide +kernel
theorem dX9_layLine_66 : decode cX9_layLine 66 = .ok (.ireturn, 1) := by decide +kernel
set_option maxRecDepth 20000 in
theorem ggX9_intersect_X9_mod : GoodIn wsX9_intersect wsX9_mod := goodIn_r _ [5, 6, 7, 8, 9, 10, 20, 21, 22, 23, 24, 25, 26, 27, 28, 29] (by decide +kernel) (by decide +kernel)
set_option maxRecDepth 20000 in
theorem gX9_intersect_X9_mod : GoodIn wsX9_intersect (wsV RX9 48 RX9 yX9_mod wsX9_mod) := goodIn_app (goodIn_of _ (by decide +kernel)) ggX9_intersect_X9_mod
set_option maxRecDepth 20000 in
theorem ggX9_intersect_X9_opposite : GoodIn wsX9_intersect wsX9_opposite := goodIn_r _ [14, 6, 20, 21, 22, 23, 24, 25, 26, 27, 28, 29] (by decide +kernel) (by decide +kernel)
set_option maxRecDepth 20000 in
theorem gX9_intersect_X9_opposite : GoodIn wsX9_intersect (wsV RX9 58 RX9 yX9_opposite wsX9_opposite) := goodIn_app (goodIn_of _ (by decide +kernel)) ggX9_intersect_X9_opposite
set_option maxRecDepth 20000 in
theorem ggX9_intersect_X9_lay : GoodIn wsX9_intersect wsX9_lay := goodIn_r _ [18, 19, 1, 2, 3, 4, 5, 6, 7, 8, 9, 10, 20, 21, 22, 23, 24, 25, 26, 27, 28, 29] (by decide +kernel) (by decide +kernel)
set_option maxRecDepth 20000 in
theorem gX9_intersect_X9_lay : GoodIn wsX9_intersect (wsV RX9 61 RX9 yX9_lay wsX9_lay) := goodIn_app (goodIn_of _ (by decide +kernel)) ggX9_intersect_X9_lay
theorem dX9_intersect_0 : decode cX9_intersect 0 = .ok (.aload_n 0, 1) := by decide +kernel
theorem dX9_intersect_1 : decode cX9_intersect 1 = .ok (.iload_n 1, 1) := by decide +kernel
theorem dX9_intersect_2 : decode cX9_intersect 2 = .ok (.iload 5, 2) := by decide +kernel
theorem dX9_intersect_4 : decode cX9_intersect 4 = .ok (.imul, 1) := by decide +kernel
theorem dX9_intersect_5 : decode cX9_intersect 5 = .ok (.iload 4, 2) := by decide +kernel
theorem dX9_intersect_7 : decode cX9_intersect 7 = .ok (.iload_n 2, 1) := by decide +kernel
theorem dX9_intersect_8 : decode cX9_intersect 8 = .ok (.imul, 1) := by decide +kernel
theorem dX9_intersect_9 : decode cX9_intersect 9 = .ok (.isub, 1) := by decide +kernel
theorem dX9_intersect_10 : decode cX9_intersect 10 = .ok (.invokevirtual 48, 3) := by decide +kernel
theorem dX9_intersect_13 : decode cX9_intersect 13 = .ok (.istore 7, 2) := by decide +kernel
theorem dX9_intersect_15 : decode cX9_intersect 15 = .ok (.iload 7, 2) := by decide +kernel
theorem dX9_intersect_17 : decode cX9_intersect 17 = .ok (.ifCond .ne 5, 3) := by decide +kernel
theorem dX9_intersect_20 : decode cX9_intersect 20 = .ok (.iconst 0, 1) := by decide +kernel
theorem dX9_intersect_21 : decode cX9_intersect 21 = .ok (.ireturn, 1) := by decide +kernel
theorem dX9_intersect_22 : decode cX9_intersect 22 = .ok (.aload_n 0, 1) := by decide +kernel
theorem dX9_intersect_23 : decode cX9_intersect 23 = .ok (.iload 7, 2) := by decide +kernel
theorem dX9_intersect_25 : decode cX9_intersect 25 = .ok (.invokevirtual 58, 3) := by decide +kernel
theorem dX9_intersect_28 : decode cX9_intersect 28 = .ok (.istore 8, 2) := by decide +kernel
theorem dX9_intersect_30 : decode cX9_intersect 30 = .ok (.aload_n 0, 1) := by decide +kernel
theorem dX9_intersect_31 : decode cX9_intersect 31 = .ok (.aload_n 0, 1) := by decide +kernel
theorem dX9_intersect_32 : decode cX9_intersect 32 = .ok (.iload_n 2, 1) := by decide +kernel
theorem dX9_intersect_33 : decode cX9_intersect 33 = .ok (.iload 6, 2) := by decide +kernel
theorem dX9_intersect_35 : decode cX9_intersect 35 = .ok (.imul, 1) := by decide +kernel
theorem dX9_intersect_36 : decode cX9_intersect 36 = .ok (.iload 5, 2) := by decide +kernel
theorem dX9_intersect_38 : decode cX9_intersect 38 = .ok (.iload_n 3, 1) := by decide +kernel
theorem dX9_intersect_39 : decode cX9_intersect 39 = .ok (.imul, 1) := by decide +kernel
theorem dX9_intersect_40 : decode cX9_intersect 40 = .ok (.isub, 1) := by decide +kernel
theorem dX9_intersect_41 : decode cX9_intersect 41 = .ok (.invokevirtual 48, 3) := by decide +kernel
theorem dX9_intersect_44 : decode cX9_intersect 44 = .ok (.iload 8, 2) := by decide +kernel
theorem dX9_intersect_46 : decode cX9_intersect 46 = .ok (.imul, 1) := by decide +kernel
theorem dX9_intersect_47 : decode cX9_intersect 47 = .ok (.aload_n 0, 1) := by decide +kernel
theorem dX9_intersect_48 : decode cX9_intersect 48 = .ok (.iload_n 3, 1) := by decide +kernel
theorem dX9_intersect_49 : decode cX9_intersect 49 = .ok (.iload 4, 2) := by decide +kernel
theorem dX9_intersect_51 : decode cX9_intersect 51 = .ok (.imul, 1) := by decide +kernel
theorem dX9_intersect_52 : decode cX9_intersect 52 = .ok (.iload 6, 2) := by decide +kernel
theorem dX9_intersect_54 : decode cX9_intersect 54 = .ok (.iload_n 1, 1) := by decide +kernel
theorem dX9_intersect_55 : decode cX9_intersect 55 = .ok (.imul, 1) := by decide +kernel
theorem dX9_intersect_56 : decode cX9_intersect 56 = .ok (.isub, 1) := by decide +kernel
theorem dX9_intersect_57 : decode cX9_intersect 57 = .ok (.invokevirtual 48, 3) := by decide +kernel
theorem dX9_intersect_60 : decode cX9_intersect 60 = .ok (.iload 8, 2) := by decide +kernel
theorem dX9_intersect_62 : decode cX9_intersect 62 = .ok (.imul, 1) := by decide +kernel
theorem dX9_intersect_63 : decode cX9_intersect 63 = .ok (.iconst 0, 1) := by decide +kernel
theorem dX9_intersect_64 : decode cX9_intersect 64 = .ok (.invokevirtual 61, 3) := by decide +kernel
theorem dX9_intersect_67 : decode cX9_intersect 67 = .ok (.ireturn, 1) := by decide +kernel
set_option maxRecDepth 20000 in
theorem ggX9_common_X9_opposite : GoodIn wsX9_common wsX9_opposite := goodIn_r _ [6, 1, 24, 25, 26, 27, 28, 29, 30, 31, 32, 33] (by decide +kernel) (by decide +kernel)
set_option maxRecDepth 20000 in
theorem gX9_common_X9_opposite : GoodIn wsX9_common (wsV RX9 58 RX9 yX9_opposite wsX9_opposite) := goodIn_app (goodIn_of _ (by decide +kernel)) ggX9_common_X9_opposite
set_option maxRecDepth 20000 in
theorem ggX9_common_X9_mod : GoodIn wsX9_common wsX9_mod := goodIn_r _ [10, 1, 11, 12, 13, 14, 24, 25, 26, 27, 28, 29, 30, 31, 32, 33] (by decide +kernel) (by decide +kernel)
set_option maxRecDepth 20000 in
theorem gX9_common_X9_mod : GoodIn wsX9_common (wsV RX9 48 RX9 yX9_mod wsX9_mod) := goodIn_app (goodIn_of _ (by decide +kernel)) ggX9_common_X9_mod
set_option maxRecDepth 20000 in
theorem ggX9_common_X9_squareOf : GoodIn wsX9_common wsX9_squareOf := goodIn_r _ [18, 7, 8, 9, 5, 10, 1, 11, 12, 13, 14, 24, 25, 26, 27, 28, 29, 30, 31, 32, 33] (by decide +kernel) (by decide +kernel)
set_option maxRecDepth 20000 in
theorem gX9_common_X9_squareOf : GoodIn wsX9_common (wsV RX9 64 RX9 yX9_squareOf wsX9_squareOf) := goodIn_app (goodIn_of _ (by decide +kernel)) ggX9_common_X9_squareOf
set_option maxRecDepth 20000 in
theorem ggX9_common_X9_lay : GoodIn wsX9_common wsX9_lay := goodIn_r _ [22, 23, 7, 8, 9, 5, 10, 1, 11, 12, 13, 14, 24, 25, 26, 27, 28, 29, 30, 31, 32, 33] (by decide +kernel) (by decide +kernel)
set_option maxRecDepth 20000 in
theorem gX9_common_X9_lay : GoodIn wsX9_common (wsV RX9 61 RX9 yX9_lay wsX9_lay) := goodIn_app (goodIn_of _ (by decide +kernel)) ggX9_common_X9_lay
theorem dX9_common_0 : decode cX9_common 0 = .ok (.iconst 0, 1) := by decide +kernel
theorem dX9_common_1 : decode cX9_common 1 = .ok (.istore 8, 2) := by decide +kernel
theorem dX9_common_3 : decode cX9_common 3 = .ok (.iload_n 2, 1) := by decide +kernel
theorem dX9_common_4 : decode cX9_common 4 = .ok (.ifCond .ne 7, 3) := by decide +kernel
theorem dX9_common_7 : decode cX9_common 7 = .ok (.iconst 0, 1) := by decide +kernel
theorem dX9_common_8 : decode cX9_common 8 = .ok (.goto 8, 3) := by decide +kernel
theorem dX9_common_11 : decode cX9_common 11 = .ok (.aload_n 0, 1) := by decide +kernel
theorem dX9_common_12 : decode cX9_common 12 = .ok (.iload_n 2, 1) := by decide +kernel
theorem dX9_common_13 : decode cX9_common 13 = .ok (.invokevirtual 58, 3) := by decide +kernel
theorem dX9_common_16 : decode cX9_common 16 = .ok (.istore 9, 2) := by decide +kernel
theorem dX9_common_18 : decode cX9_common 18 = .ok (.iconst 0, 1) := by decide +kernel
theorem dX9_common_19 : decode cX9_common 19 = .ok (.istore 10, 2) := by decide +kernel
theorem dX9_common_21 : decode cX9_common 21 = .ok (.iload 10, 2) := by decide +kernel
theorem dX9_common_23 : decode cX9_common 23 = .ok (.aload_n 0, 1) := by decide +kernel
theorem dX9_common_24 : decode cX9_common 24 = .ok (.getfield 7, 3) := by decide +kernel
theorem dX9_common_27 : decode cX9_common 27 = .ok (.if_icmp .ge 104, 3) := by decide +kernel
theorem dX9_common_30 : decode cX9_common 30 = .ok (.iload 8, 2) := by decide +kernel
theorem dX9_common_32 : decode cX9_common 32 = .ok (.iload 7, 2) := by decide +kernel
theorem dX9_common_34 : decode cX9_common 34 = .ok (.ifCond .eq 7, 3) := by decide +kernel
theorem dX9_common_37 : decode cX9_common 37 = .ok (.iconst 2, 1) := by decide +kernel
theorem dX9_common_38 : decode cX9_common 38 = .ok (.goto 4, 3) := by decide +kernel
theorem dX9_common_41 : decode cX9_common 41 = .ok (.iconst 1, 1) := by decide +kernel
theorem dX9_common_42 : decode cX9_common 42 = .ok (.if_icmp .ge 89, 3) := by decide +kernel
theorem dX9_common_45 : decode cX9_common 45 = .ok (.iload_n 2, 1) := by decide +kernel
theorem dX9_common_46 : decode cX9_common 46 = .ok (.ifCond .ne 12, 3) := by decide +kernel
theorem dX9_common_49 : decode cX9_common 49 = .ok (.aload_n 0, 1) := by decide +kernel
theorem dX9_common_50 : decode cX9_common 50 = .ok (.iload_n 3, 1) := by decide +kernel
theorem dX9_common_51 : decode cX9_common 51 = .ok (.ineg, 1) := by decide +kernel
theorem dX9_common_52 : decode cX9_common 52 = .ok (.invokevirtual 48, 3) := by decide +kernel
theorem dX9_common_55 : decode cX9_common 55 = .ok (.goto 5, 3) := by decide +kernel
theorem dX9_common_58 : decode cX9_common 58 = .ok (.iload 10, 2) := by decide +kernel
theorem dX9_common_60 : decode cX9_common 60 = .ok (.istore 11, 2) := by decide +kernel
theorem dX9_common_62 : decode cX9_common 62 = .ok (.iload_n 2, 1) := by decide +kernel
theorem dX9_common_63 : decode cX9_common 63 = .ok (.ifCond .ne 8, 3) := by decide +kernel
theorem dX9_common_66 : decode cX9_common 66 = .ok (.iload 10, 2) := by decide +kernel
theorem dX9_common_68 : decode cX9_common 68 = .ok (.goto 22, 3) := by decide +kernel
theorem dX9_common_71 : decode cX9_common 71 = .ok (.aload_n 0, 1) := by decide +kernel
theorem dX9_common_72 : decode cX9_common 72 = .ok (.iload_n 1, 1) := by decide +kernel
theorem dX9_common_73 : decode cX9_common 73 = .ok (.iload 10, 2) := by decide +kernel
theorem dX9_common_75 : decode cX9_common 75 = .ok (.imul, 1) := by decide +kernel
theorem dX9_common_76 : decode cX9_common 76 = .ok (.iload_n 3, 1) := by decide +kernel
theorem dX9_common_77 : decode cX9_common 77 = .ok (.iadd, 1) := by decide +kernel
theorem dX9_common_78 : decode cX9_common 78 = .ok (.ineg, 1) := by decide +kernel
theorem dX9_common_79 : decode cX9_common 79 = .ok (.invokevirtual 48, 3) := by decide +kernel
theorem dX9_common_82 : decode cX9_common 82 = .ok (.iload 9, 2) := by decide +kernel
theorem dX9_common_84 : decode cX9_common 84 = .ok (.imul, 1) := by decide +kernel
theorem dX9_common_85 : decode cX9_common 85 = .ok (.aload_n 0, 1) := by decide +kernel
theorem dX9_common_86 : decode cX9_common 86 = .ok (.getfield 7, 3) := by decide +kernel
theorem dX9_common_89 : decode cX9_common 89 = .ok (.irem, 1) := by decide +kernel
theorem dX9_common_90 : decode cX9_common 90 = .ok (.istore 12, 2) := by decide +kernel
theorem dX9_common_92 : decode cX9_common 92 = .ok (.aload_n 0, 1) := by decide +kernel
theorem dX9_common_93 : decode cX9_common 93 = .ok (.iload 11, 2) := by decide +kernel
theorem dX9_common_95 : decode cX9_common 95 = .ok (.iload 12, 2) := by decide +kernel
theorem dX9_common_97 : decode cX9_common 97 = .ok (.iload 4, 2) := by decide +kernel
theorem dX9_common_99 : decode cX9_common 99 = .ok (.iload 5, 2) := by decide +kernel
theorem dX9_common_101 : decode cX9_common 101 = .ok (.invokevirtual 64, 3) := by decide +kernel
theorem dX9_common_104 : decode cX9_common 104 = .ok (.iload 6, 2) := by decide +kernel
theorem dX9_common_106 : decode cX9_common 106 = .ok (.if_icmp .eq 6, 3) := by decide +kernel
theorem dX9_common_109 : decode cX9_common 109 = .ok (.goto 16, 3) := by decide +kernel
theorem dX9_common_112 : decode cX9_common 112 = .ok (.aload_n 0, 1) := by decide +kernel
theorem dX9_common_113 : decode cX9_common 113 = .ok (.iload 11, 2) := by decide +kernel
theorem dX9_common_115 : decode cX9_common 115 = .ok (.iload 12, 2) := by decide +kernel
theorem dX9_common_117 : decode cX9_common 117 = .ok (.iconst 0, 1) := by decide +kernel
theorem dX9_common_118 : decode cX9_common 118 = .ok (.invokevirtual 61, 3) := by decide +kernel
theorem dX9_common_121 : decode cX9_common 121 = .ok (.pop, 1) := by decide +kernel
theorem dX9_common_122 : decode cX9_common 122 = .ok (.iinc 8 1, 3) := by decide +kernel
theorem dX9_common_125 : decode cX9_common 125 = .ok (.iinc 10 1, 3) := by decide +kernel
theorem dX9_common_128 : decode cX9_common 128 = .ok (.goto (-107), 3) := by decide +kernel
theorem dX9_common_131 : decode cX9_common 131 = .ok (.iload 8, 2) := by decide +kernel
theorem dX9_common_133 : decode cX9_common 133 = .ok (.ifCond .le 7, 3) := by decide +kernel
theorem dX9_common_136 : decode cX9_common 136 = .ok (.iconst 1, 1) := by decide +kernel
theorem dX9_common_137 : decode cX9_common 137 = .ok (.goto 4, 3) := by decide +kernel
theorem dX9_common_140 : decode cX9_common 140 = .ok (.iconst 0, 1) := by decide +kernel
theorem dX9_common_141 : decode cX9_common 141 = .ok (.ireturn, 1) := by decide +kernel
set_option maxRecDepth 20000 in
theorem ggX9_commonOfCircles_X9_x : GoodIn wsX9_commonOfCircles wsX9_x := goodIn_r _ [6, 7, 8, 9, 5, 10, 11, 49, 50, 51, 52, 53, 54, 55, 56, 57, 58] (by decide +kernel) (by decide +kernel)
set_option maxRecDepth 20000 in
theorem gX9_commonOfCircles_X9_x : GoodIn wsX9_commonOfCircles (wsV RX9 68 RX9 yX9_x wsX9_x) := goodIn_app (goodIn_of _ (by decide +kernel)) ggX9_commonOfCircles_X9_x
set_option maxRecDepth 20000 in
theorem ggX9_commonOfCircles_X9_y : GoodIn wsX9_commonOfCircles wsX9_y := goodIn_r _ [15, 7, 8, 9, 5, 10, 11, 49, 50, 51, 52, 53, 54, 55, 56, 57, 58] (by decide +kernel) (by decide +kernel)
set_option maxRecDepth 20000 in
theorem gX9_commonOfCircles_X9_y : GoodIn wsX9_commonOfCircles (wsV RX9 71 RX9 yX9_y wsX9_y) := goodIn_app (goodIn_of _ (by decide +kernel)) ggX9_commonOfCircles_X9_y
set_option maxRecDepth 20000 in
theorem ggX9_commonOfCircles_X9_z : GoodIn wsX9_commonOfCircles wsX9_z := goodIn_r _ [19, 7, 8, 9, 5, 10, 11, 49, 50, 51, 52, 53, 54, 55, 56, 57, 58] (by decide +kernel) (by decide +kernel)
set_option maxRecDepth 20000 in
theorem gX9_commonOfCircles_X9_z : GoodIn wsX9_commonOfCircles (wsV RX9 74 RX9 yX9_z wsX9_z) := goodIn_app (goodIn_of _ (by decide +kernel)) ggX9_commonOfCircles_X9_z
set_option maxRecDepth 20000 in
theorem ggX9_commonOfCircles_X9_layLine : GoodIn wsX9_commonOfCircles wsX9_layLine := goodIn_r _ [23, 24, 25, 26, 5, 27, 28, 29, 30, 31, 32, 33, 34, 35, 36, 37, 38, 39, 40, 1, 49, 50, 51, 52, 53, 54, 55, 56, 57, 58] (by decide +kernel) (by decide +kernel)
set_option maxRecDepth 20000 in
theorem gX9_commonOfCircles_X9_layLine : GoodIn wsX9_commonOfCircles (wsV RX9 77 RX9 yX9_layLine wsX9_layLine) := goodIn_app (goodIn_of _ (by decide +kernel)) ggX9_commonOfCircles_X9_layLine
set_option maxRecDepth 20000 in
theorem ggX9_commonOfCircles_X9_common : GoodIn wsX9_commonOfCircles wsX9_common := goodIn_r _ [44, 28, 33, 34, 35, 5, 36, 24, 25, 26, 27, 29, 30, 31, 32, 45, 46, 47, 48, 37, 38, 39, 40, 1, 49, 50, 51, 52, 53, 54, 55, 56, 57, 58] (by decide +kernel) (by decide +kernel)
set_option maxRecDepth 20000 in
theorem gX9_commonOfCircles_X9_common : GoodIn wsX9_commonOfCircles (wsV RX9 80 RX9 yX9_common wsX9_common) := goodIn_app (goodIn_of _ (by decide +kernel)) ggX9_commonOfCircles_X9_common
theorem dX9_commonOfCircles_0 : decode cX9_commonOfCircles 0 = .ok (.iconst 2, 1) := by decide +kernel
theorem dX9_commonOfCircles_1 : decode cX9_commonOfCircles 1 = .ok (.aload_n 0, 1) := by decide +kernel
theorem dX9_commonOfCircles_2 : decode cX9_commonOfCircles 2 = .ok (.iload_n 2, 1) := by decide +kernel
theorem dX9_commonOfCircles_3 : decode cX9_commonOfCircles 3 = .ok (.invokevirtual 68, 3) := by decide +kernel
theorem dX9_commonOfCircles_6 : decode cX9_commonOfCircles 6 = .ok (.aload_n 0, 1) := by decide +kernel
theorem dX9_commonOfCircles_7 : decode cX9_commonOfCircles 7 = .ok (.iload_n 1, 1) := by decide +kernel
theorem dX9_commonOfCircles_8 : decode cX9_commonOfCircles 8 = .ok (.invokevirtual 68, 3) := by decide +kernel
theorem dX9_commonOfCircles_11 : decode cX9_commonOfCircles 11 = .ok (.isub, 1) := by decide +kernel
theorem dX9_commonOfCircles_12 : decode cX9_commonOfCircles 12 = .ok (.imul, 1) := by decide +kernel
theorem dX9_commonOfCircles_13 : decode cX9_commonOfCircles 13 = .ok (.istore 4, 2) := by decide +kernel
theorem dX9_commonOfCircles_15 : decode cX9_commonOfCircles 15 = .ok (.iconst 2, 1) := by decide +kernel
theorem dX9_commonOfCircles_16 : decode cX9_commonOfCircles 16 = .ok (.aload_n 0, 1) := by decide +kernel
theorem dX9_commonOfCircles_17 : decode cX9_commonOfCircles 17 = .ok (.iload_n 2, 1) := by decide +kernel
theorem dX9_commonOfCircles_18 : decode cX9_commonOfCircles 18 = .ok (.invokevirtual 71, 3) := by decide +kernel
theorem dX9_commonOfCircles_21 : decode cX9_commonOfCircles 21 = .ok (.aload_n 0, 1) := by decide +kernel
theorem dX9_commonOfCircles_22 : decode cX9_commonOfCircles 22 = .ok (.iload_n 1, 1) := by decide +kernel
theorem dX9_commonOfCircles_23 : decode cX9_commonOfCircles 23 = .ok (.invokevirtual 71, 3) := by decide +kernel
theorem dX9_commonOfCircles_26 : decode cX9_commonOfCircles 26 = .ok (.isub, 1) := by decide +kernel
theorem dX9_commonOfCircles_27 : decode cX9_commonOfCircles 27 = .ok (.imul, 1) := by decide +kernel
theorem dX9_commonOfCircles_28 : decode cX9_commonOfCircles 28 = .ok (.istore 5, 2) := by decide +kernel
theorem dX9_commonOfCircles_30 : decode cX9_commonOfCircles 30 = .ok (.aload_n 0, 1) := by decide +kernel
theorem dX9_commonOfCircles_31 : decode cX9_commonOfCircles 31 = .ok (.iload 4, 2) := by decide +kernel
theorem dX9_commonOfCircles_33 : decode cX9_commonOfCircles 33 = .ok (.iload 5, 2) := by decide +kernel
theorem dX9_commonOfCircles_35 : decode cX9_commonOfCircles 35 = .ok (.aload_n 0, 1) := by decide +kernel
theorem dX9_commonOfCircles_36 : decode cX9_commonOfCircles 36 = .ok (.iload_n 1, 1) := by decide +kernel
theorem dX9_commonOfCircles_37 : decode cX9_commonOfCircles 37 = .ok (.invokevirtual 68, 3) := by decide +kernel
theorem dX9_commonOfCircles_40 : decode cX9_commonOfCircles 40 = .ok (.aload_n 0, 1) := by decide +kernel
theorem dX9_commonOfCircles_41 : decode cX9_commonOfCircles 41 = .ok (.iload_n 1, 1) := by decide +kernel
theorem dX9_commonOfCircles_42 : decode cX9_commonOfCircles 42 = .ok (.invokevirtual 68, 3) := by decide +kernel
theorem dX9_commonOfCircles_45 : decode cX9_commonOfCircles 45 = .ok (.imul, 1) := by decide +kernel
theorem dX9_commonOfCircles_46 : decode cX9_commonOfCircles 46 = .ok (.aload_n 0, 1) := by decide +kernel
theorem dX9_commonOfCircles_47 : decode cX9_commonOfCircles 47 = .ok (.iload_n 1, 1) := by decide +kernel
theorem dX9_commonOfCircles_48 : decode cX9_commonOfCircles 48 = .ok (.invokevirtual 71, 3) := by decide +kernel
theorem dX9_commonOfCircles_51 : decode cX9_commonOfCircles 51 = .ok (.aload_n 0, 1) := by decide +kernel
theorem dX9_commonOfCircles_52 : decode cX9_commonOfCircles 52 = .ok (.iload_n 1, 1) := by decide +kernel
theorem dX9_commonOfCircles_53 : decode cX9_commonOfCircles 53 = .ok (.invokevirtual 71, 3) := by decide +kernel
theorem dX9_commonOfCircles_56 : decode cX9_commonOfCircles 56 = .ok (.imul, 1) := by decide +kernel
theorem dX9_commonOfCircles_57 : decode cX9_commonOfCircles 57 = .ok (.iadd, 1) := by decide +kernel
theorem dX9_commonOfCircles_58 : decode cX9_commonOfCircles 58 = .ok (.aload_n 0, 1) := by decide +kernel
theorem dX9_commonOfCircles_59 : decode cX9_commonOfCircles 59 = .ok (.iload_n 2, 1) := by decide +kernel
theorem dX9_commonOfCircles_60 : decode cX9_commonOfCircles 60 = .ok (.invokevirtual 68, 3) := by decide +kernel
theorem dX9_commonOfCircles_63 : decode cX9_commonOfCircles 63 = .ok (.aload_n 0, 1) := by decide +kernel
theorem dX9_commonOfCircles_64 : decode cX9_commonOfCircles 64 = .ok (.iload_n 2, 1) := by decide +kernel
theorem dX9_commonOfCircles_65 : decode cX9_commonOfCircles 65 = .ok (.invokevirtual 68, 3) := by decide +kernel
theorem dX9_commonOfCircles_68 : decode cX9_commonOfCircles 68 = .ok (.imul, 1) := by decide +kernel
theorem dX9_commonOfCircles_69 : decode cX9_commonOfCircles 69 = .ok (.isub, 1) := by decide +kernel
theorem dX9_commonOfCircles_70 : decode cX9_commonOfCircles 70 = .ok (.aload_n 0, 1) := by decide +kernel
theorem dX9_commonOfCircles_71 : decode cX9_commonOfCircles 71 = .ok (.iload_n 2, 1) := by decide +kernel
theorem dX9_commonOfCircles_72 : decode cX9_commonOfCircles 72 = .ok (.invokevirtual 71, 3) := by decide +kernel
theorem dX9_commonOfCircles_75 : decode cX9_commonOfCircles 75 = .ok (.aload_n 0, 1) := by decide +kernel
theorem dX9_commonOfCircles_76 : decode cX9_commonOfCircles 76 = .ok (.iload_n 2, 1) := by decide +kernel
theorem dX9_commonOfCircles_77 : decode cX9_commonOfCircles 77 = .ok (.invokevirtual 71, 3) := by decide +kernel
theorem dX9_commonOfCircles_80 : decode cX9_commonOfCircles 80 = .ok (.imul, 1) := by decide +kernel
theorem dX9_commonOfCircles_81 : decode cX9_commonOfCircles 81 = .ok (.isub, 1) := by decide +kernel
theorem dX9_commonOfCircles_82 : decode cX9_commonOfCircles 82 = .ok (.aload_n 0, 1) := by decide +kernel
theorem dX9_commonOfCircles_83 : decode cX9_commonOfCircles 83 = .ok (.iload_n 1, 1) := by decide +kernel
theorem dX9_commonOfCircles_84 : decode cX9_commonOfCircles 84 = .ok (.invokevirtual 74, 3) := by decide +kernel
theorem dX9_commonOfCircles_87 : decode cX9_commonOfCircles 87 = .ok (.isub, 1) := by decide +kernel
theorem dX9_commonOfCircles_88 : decode cX9_commonOfCircles 88 = .ok (.aload_n 0, 1) := by decide +kernel
theorem dX9_commonOfCircles_89 : decode cX9_commonOfCircles 89 = .ok (.iload_n 2, 1) := by decide +kernel
theorem dX9_commonOfCircles_90 : decode cX9_commonOfCircles 90 = .ok (.invokevirtual 74, 3) := by decide +kernel
theorem dX9_commonOfCircles_93 : decode cX9_commonOfCircles 93 = .ok (.iadd, 1) := by decide +kernel
theorem dX9_commonOfCircles_94 : decode cX9_commonOfCircles 94 = .ok (.invokevirtual 77, 3) := by decide +kernel
theorem dX9_commonOfCircles_97 : decode cX9_commonOfCircles 97 = .ok (.ifCond .ne 5, 3) := by decide +kernel
theorem dX9_commonOfCircles_100 : decode cX9_commonOfCircles 100 = .ok (.iconst 0, 1) := by decide +kernel
theorem dX9_commonOfCircles_101 : decode cX9_commonOfCircles 101 = .ok (.ireturn, 1) := by decide +kernel
theorem dX9_commonOfCircles_102 : decode cX9_commonOfCircles 102 = .ok (.aload_n 0, 1) := by decide +kernel
theorem dX9_commonOfCircles_103 : decode cX9_commonOfCircles 103 = .ok (.aload_n 0, 1) := by decide +kernel
theorem dX9_commonOfCircles_104 : decode cX9_commonOfCircles 104 = .ok (.getfield 20, 3) := by decide +kernel
theorem dX9_commonOfCircles_107 : decode cX9_commonOfCircles 107 = .ok (.iconst 0, 1) := by decide +kernel
theorem dX9_commonOfCircles_108 : decode cX9_commonOfCircles 108 = .ok (.iaload, 1) := by decide +kernel
theorem dX9_commonOfCircles_109 : decode cX9_commonOfCircles 109 = .ok (.aload_n 0, 1) := by decide +kernel
theorem dX9_commonOfCircles_110 : decode cX9_commonOfCircles 110 = .ok (.getfield 20, 3) := by decide +kernel
theorem dX9_commonOfCircles_113 : decode cX9_commonOfCircles 113 = .ok (.iconst 1, 1) := by decide +kernel
theorem dX9_commonOfCircles_114 : decode cX9_commonOfCircles 114 = .ok (.iaload, 1) := by decide +kernel
theorem dX9_commonOfCircles_115 : decode cX9_commonOfCircles 115 = .ok (.aload_n 0, 1) := by decide +kernel
theorem dX9_commonOfCircles_116 : decode cX9_commonOfCircles 116 = .ok (.getfield 20, 3) := by decide +kernel
theorem dX9_commonOfCircles_119 : decode cX9_commonOfCircles 119 = .ok (.iconst 2, 1) := by decide +kernel
theorem dX9_commonOfCircles_120 : decode cX9_commonOfCircles 120 = .ok (.iaload, 1) := by decide +kernel
theorem dX9_commonOfCircles_121 : decode cX9_commonOfCircles 121 = .ok (.aload_n 0, 1) := by decide +kernel
theorem dX9_commonOfCircles_122 : decode cX9_commonOfCircles 122 = .ok (.iload_n 1, 1) := by decide +kernel
theorem dX9_commonOfCircles_123 : decode cX9_commonOfCircles 123 = .ok (.invokevirtual 68, 3) := by decide +kernel
theorem dX9_commonOfCircles_126 : decode cX9_commonOfCircles 126 = .ok (.aload_n 0, 1) := by decide +kernel
theorem dX9_commonOfCircles_127 : decode cX9_commonOfCircles 127 = .ok (.iload_n 1, 1) := by decide +kernel
theorem dX9_commonOfCircles_128 : decode cX9_commonOfCircles 128 = .ok (.invokevirtual 71, 3) := by decide +kernel
theorem dX9_commonOfCircles_131 : decode cX9_commonOfCircles 131 = .ok (.aload_n 0, 1) := by decide +kernel
theorem dX9_commonOfCircles_132 : decode cX9_commonOfCircles 132 = .ok (.iload_n 1, 1) := by decide +kernel
theorem dX9_commonOfCircles_133 : decode cX9_commonOfCircles 133 = .ok (.invokevirtual 74, 3) := by decide +kernel
theorem dX9_commonOfCircles_136 : decode cX9_commonOfCircles 136 = .ok (.iload_n 3, 1) := by decide +kernel
theorem dX9_commonOfCircles_137 : decode cX9_commonOfCircles 137 = .ok (.invokevirtual 80, 3) := by decide +kernel
theorem dX9_commonOfCircles_140 : decode cX9_commonOfCircles 140 = .ok (.ireturn, 1) := by decide +kernel
set_option maxRecDepth 20000 in
theorem ggX9_bisector_X9_x : GoodIn wsX9_bisector wsX9_x := goodIn_r _ [5, 6, 7, 8, 4, 9, 10, 37, 38, 39, 40, 41, 42, 43, 44, 45, 46] (by decide +kernel) (by decide +kernel)
set_option maxRecDepth 20000 in
theorem gX9_bisector_X9_x : GoodIn wsX9_bisector (wsV RX9 68 RX9 yX9_x wsX9_x) := goodIn_app (goodIn_of _ (by decide +kernel)) ggX9_bisector_X9_x
set_option maxRecDepth 20000 in
theorem ggX9_bisector_X9_y : GoodIn wsX9_bisector wsX9_y := goodIn_r _ [14, 6, 7, 8, 4, 9, 10, 37, 38, 39, 40, 41, 42, 43, 44, 45, 46] (by decide +kernel) (by decide +kernel)
set_option maxRecDepth 20000 in
theorem gX9_bisector_X9_y : GoodIn wsX9_bisector (wsV RX9 71 RX9 yX9_y wsX9_y) := goodIn_app (goodIn_of _ (by decide +kernel)) ggX9_bisector_X9_y
set_option maxRecDepth 20000 in
theorem ggX9_bisector_X9_layLine : GoodIn wsX9_bisector wsX9_layLine := goodIn_r _ [18, 19, 20, 21, 4, 22, 23, 24, 25, 26, 27, 28, 29, 30, 31, 32, 33, 34, 35, 36, 37, 38, 39, 40, 41, 42, 43, 44, 45, 46] (by decide +kernel) (by decide +kernel)
set_option maxRecDepth 20000 in
theorem gX9_bisector_X9_layLine : GoodIn wsX9_bisector (wsV RX9 77 RX9 yX9_layLine wsX9_layLine) := goodIn_app (goodIn_of _ (by decide +kernel)) ggX9_bisector_X9_layLine
theorem dX9_bisector_0 : decode cX9_bisector 0 = .ok (.aload_n 0, 1) := by decide +kernel
theorem dX9_bisector_1 : decode cX9_bisector 1 = .ok (.iconst 2, 1) := by decide +kernel
theorem dX9_bisector_2 : decode cX9_bisector 2 = .ok (.aload_n 0, 1) := by decide +kernel
theorem dX9_bisector_3 : decode cX9_bisector 3 = .ok (.iload_n 2, 1) := by decide +kernel
theorem dX9_bisector_4 : decode cX9_bisector 4 = .ok (.invokevirtual 68, 3) := by decide +kernel
theorem dX9_bisector_7 : decode cX9_bisector 7 = .ok (.aload_n 0, 1) := by decide +kernel
theorem dX9_bisector_8 : decode cX9_bisector 8 = .ok (.iload_n 1, 1) := by decide +kernel
theorem dX9_bisector_9 : decode cX9_bisector 9 = .ok (.invokevirtual 68, 3) := by decide +kernel
theorem dX9_bisector_12 : decode cX9_bisector 12 = .ok (.isub, 1) := by decide +kernel
theorem dX9_bisector_13 : decode cX9_bisector 13 = .ok (.imul, 1) := by decide +kernel
theorem dX9_bisector_14 : decode cX9_bisector 14 = .ok (.iconst 2, 1) := by decide +kernel
theorem dX9_bisector_15 : decode cX9_bisector 15 = .ok (.aload_n 0, 1) := by decide +kernel
theorem dX9_bisector_16 : decode cX9_bisector 16 = .ok (.iload_n 2, 1) := by decide +kernel
theorem dX9_bisector_17 : decode cX9_bisector 17 = .ok (.invokevirtual 71, 3) := by decide +kernel
theorem dX9_bisector_20 : decode cX9_bisector 20 = .ok (.aload_n 0, 1) := by decide +kernel
theorem dX9_bisector_21 : decode cX9_bisector 21 = .ok (.iload_n 1, 1) := by decide +kernel
theorem dX9_bisector_22 : decode cX9_bisector 22 = .ok (.invokevirtual 71, 3) := by decide +kernel
theorem dX9_bisector_25 : decode cX9_bisector 25 = .ok (.isub, 1) := by decide +kernel
theorem dX9_bisector_26 : decode cX9_bisector 26 = .ok (.imul, 1) := by decide +kernel
theorem dX9_bisector_27 : decode cX9_bisector 27 = .ok (.aload_n 0, 1) := by decide +kernel
theorem dX9_bisector_28 : decode cX9_bisector 28 = .ok (.iload_n 1, 1) := by decide +kernel
theorem dX9_bisector_29 : decode cX9_bisector 29 = .ok (.invokevirtual 68, 3) := by decide +kernel
theorem dX9_bisector_32 : decode cX9_bisector 32 = .ok (.aload_n 0, 1) := by decide +kernel
theorem dX9_bisector_33 : decode cX9_bisector 33 = .ok (.iload_n 1, 1) := by decide +kernel
theorem dX9_bisector_34 : decode cX9_bisector 34 = .ok (.invokevirtual 68, 3) := by decide +kernel
theorem dX9_bisector_37 : decode cX9_bisector 37 = .ok (.imul, 1) := by decide +kernel
theorem dX9_bisector_38 : decode cX9_bisector 38 = .ok (.aload_n 0, 1) := by decide +kernel
theorem dX9_bisector_39 : decode cX9_bisector 39 = .ok (.iload_n 1, 1) := by decide +kernel
theorem dX9_bisector_40 : decode cX9_bisector 40 = .ok (.invokevirtual 71, 3) := by decide +kernel
theorem dX9_bisector_43 : decode cX9_bisector 43 = .ok (.aload_n 0, 1) := by decide +kernel
theorem dX9_bisector_44 : decode cX9_bisector 44 = .ok (.iload_n 1, 1) := by decide +kernel
theorem dX9_bisector_45 : decode cX9_bisector 45 = .ok (.invokevirtual 71, 3) := by decide +kernel
theorem dX9_bisector_48 : decode cX9_bisector 48 = .ok (.imul, 1) := by decide +kernel
theorem dX9_bisector_49 : decode cX9_bisector 49 = .ok (.iadd, 1) := by decide +kernel
theorem dX9_bisector_50 : decode cX9_bisector 50 = .ok (.aload_n 0, 1) := by decide +kernel
theorem dX9_bisector_51 : decode cX9_bisector 51 = .ok (.iload_n 2, 1) := by decide +kernel
theorem dX9_bisector_52 : decode cX9_bisector 52 = .ok (.invokevirtual 68, 3) := by decide +kernel
theorem dX9_bisector_55 : decode cX9_bisector 55 = .ok (.aload_n 0, 1) := by decide +kernel
theorem dX9_bisector_56 : decode cX9_bisector 56 = .ok (.iload_n 2, 1) := by decide +kernel
theorem dX9_bisector_57 : decode cX9_bisector 57 = .ok (.invokevirtual 68, 3) := by decide +kernel
theorem dX9_bisector_60 : decode cX9_bisector 60 = .ok (.imul, 1) := by decide +kernel
theorem dX9_bisector_61 : decode cX9_bisector 61 = .ok (.isub, 1) := by decide +kernel
theorem dX9_bisector_62 : decode cX9_bisector 62 = .ok (.aload_n 0, 1) := by decide +kernel
theorem dX9_bisector_63 : decode cX9_bisector 63 = .ok (.iload_n 2, 1) := by decide +kernel
theorem dX9_bisector_64 : decode cX9_bisector 64 = .ok (.invokevirtual 71, 3) := by decide +kernel
theorem dX9_bisector_67 : decode cX9_bisector 67 = .ok (.aload_n 0, 1) := by decide +kernel
theorem dX9_bisector_68 : decode cX9_bisector 68 = .ok (.iload_n 2, 1) := by decide +kernel
theorem dX9_bisector_69 : decode cX9_bisector 69 = .ok (.invokevirtual 71, 3) := by decide +kernel
theorem dX9_bisector_72 : decode cX9_bisector 72 = .ok (.imul, 1) := by decide +kernel
theorem dX9_bisector_73 : decode cX9_bisector 73 = .ok (.isub, 1) := by decide +kernel
theorem dX9_bisector_74 : decode cX9_bisector 74 = .ok (.invokevirtual 77, 3) := by decide +kernel
theorem dX9_bisector_77 : decode cX9_bisector 77 = .ok (.ireturn, 1) := by decide +kernel
set_option maxRecDepth 20000 in
theorem ggX9_mirror_X9_x : GoodIn wsX9_mirror wsX9_x := goodIn_r _ [6, 7, 8, 9, 5, 10, 11, 37, 38, 39, 40, 41, 42, 43, 44, 45, 46] (by decide +kernel) (by decide +kernel)
set_option maxRecDepth 20000 in
theorem gX9_mirror_X9_x : GoodIn wsX9_mirror (wsV RX9 68 RX9 yX9_x wsX9_x) := goodIn_app (goodIn_of _ (by decide +kernel)) ggX9_mirror_X9_x
set_option maxRecDepth 20000 in
theorem ggX9_mirror_X9_y : GoodIn wsX9_mirror wsX9_y := goodIn_r _ [15, 7, 8, 9, 5, 10, 11, 37, 38, 39, 40, 41, 42, 43, 44, 45, 46] (by decide +kernel) (by decide +kernel)
set_option maxRecDepth 20000 in
theorem gX9_mirror_X9_y : GoodIn wsX9_mirror (wsV RX9 71 RX9 yX9_y wsX9_y) := goodIn_app (goodIn_of _ (by decide +kernel)) ggX9_mirror_X9_y
set_option maxRecDepth 20000 in
theorem ggX9_mirror_X9_z : GoodIn wsX9_mirror wsX9_z := goodIn_r _ [19, 7, 8, 9, 5, 10, 11, 37, 38, 39, 40, 41, 42, 43, 44, 45, 46] (by decide +kernel) (by decide +kernel)
set_option maxRecDepth 20000 in
theorem gX9_mirror_X9_z : GoodIn wsX9_mirror (wsV RX9 74 RX9 yX9_z wsX9_z) := goodIn_app (goodIn_of _ (by decide +kernel)) ggX9_mirror_X9_z
