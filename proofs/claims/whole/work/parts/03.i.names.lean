set_option maxRecDepth 20000 in
theorem gX9_count_X9_fail : GoodIn wsX9_count (wsV RX9 52 RX9 yX9_fail wsX9_fail) := goodIn_app (goodIn_of _ (by decide +kernel)) ggX9_count_X9_fail
theorem dX9_count_0 : decode cX9_count 0 = .ok (.aload_n 0, 1) := by decide +kernel
theorem dX9_count_1 : decode cX9_count 1 = .ok (.iconst 0, 1) := by decide +kernel
theorem dX9_count_2 : decode cX9_count 2 = .ok (.putfield 29, 3) := by decide +kernel
theorem dX9_count_5 : decode cX9_count 5 = .ok (.iload_n 1, 1) := by decide +kernel
theorem dX9_count_6 : decode cX9_count 6 = .ok (.iconst 0, 1) := by decide +kernel
theorem dX9_count_7 : decode cX9_count 7 = .ok (.iconst 4, 1) := by decide +kernel
theorem dX9_count_8 : decode cX9_count 8 = .ok (.invokestatic 35, 3) := by decide +kernel
theorem dX9_count_11 : decode cX9_count 11 = .ok (.ifCond .eq 11, 3) := by decide +kernel
theorem dX9_count_14 : decode cX9_count 14 = .ok (.aload_n 0, 1) := by decide +kernel
theorem dX9_count_15 : decode cX9_count 15 = .ok (.iload_n 1, 1) := by decide +kernel
theorem dX9_count_16 : decode cX9_count 16 = .ok (.invokevirtual 118, 3) := by decide +kernel
theorem dX9_count_19 : decode cX9_count 19 = .ok (.goto 8, 3) := by decide +kernel
theorem dX9_count_22 : decode cX9_count 22 = .ok (.aload_n 0, 1) := by decide +kernel
theorem dX9_count_23 : decode cX9_count 23 = .ok (.iconst 1, 1) := by decide +kernel
theorem dX9_count_24 : decode cX9_count 24 = .ok (.invokevirtual 52, 3) := by decide +kernel
theorem dX9_count_27 : decode cX9_count 27 = .ok (.ireturn, 1) := by decide +kernel
set_option maxRecDepth 20000 in
theorem ggX9_add_X9_findAll : GoodIn wsX9_add wsX9_findAll := goodIn_r _ [12, 3, 2, 13, 14, 15, 16, 11, 17, 18, 19, 20, 21, 22, 23, 24, 25, 26, 27, 28, 29, 30, 31, 32, 33, 34, 35, 36, 37, 38, 39, 40, 41, 42, 43, 44, 45, 46, 47, 48, 49, 50, 51, 52, 53, 54, 55, 56, 57, 58, 59, 60, 61, 62, 63, 64, 65, 66, 67, 68, 69, 70, 71, 72, 73, 74, 75, 76, 77, 78, 79, 80, 81, 82, 83, 84, 85, 86, 87, 88, 89, 90, 91, 92, 93, 94, 95, 96, 97, 98, 99, 100, 101, 102, 103, 104, 105, 106, 107, 108] rfl (by decide +kernel)
set_option maxRecDepth 20000 in
theorem gX9_add_X9_findAll : GoodIn wsX9_add (wsV RX9 127 RX9 yX9_findAll wsX9_findAll) := goodIn_app (goodIn_of _ (by decide +kernel)) ggX9_add_X9_findAll
theorem dX9_add_0 : decode cX9_add 0 = .ok (.bipush 11, 2) := by decide +kernel
theorem dX9_add_2 : decode cX9_add 2 = .ok (.newarray .int, 2) := by decide +kernel
theorem dX9_add_4 : decode cX9_add 4 = .ok (.dup, 1) := by decide +kernel
theorem dX9_add_5 : decode cX9_add 5 = .ok (.iconst 0, 1) := by decide +kernel
theorem dX9_add_6 : decode cX9_add 6 = .ok (.iload_n 1, 1) := by decide +kernel
theorem dX9_add_7 : decode cX9_add 7 = .ok (.iastore, 1) := by decide +kernel
theorem dX9_add_8 : decode cX9_add 8 = .ok (.dup, 1) := by decide +kernel
theorem dX9_add_9 : decode cX9_add 9 = .ok (.iconst 1, 1) := by decide +kernel
theorem dX9_add_10 : decode cX9_add 10 = .ok (.iload_n 2, 1) := by decide +kernel
theorem dX9_add_11 : decode cX9_add 11 = .ok (.iastore, 1) := by decide +kernel
theorem dX9_add_12 : decode cX9_add 12 = .ok (.dup, 1) := by decide +kernel
theorem dX9_add_13 : decode cX9_add 13 = .ok (.iconst 2, 1) := by decide +kernel
theorem dX9_add_14 : decode cX9_add 14 = .ok (.iload_n 3, 1) := by decide +kernel
theorem dX9_add_15 : decode cX9_add 15 = .ok (.iastore, 1) := by decide +kernel
theorem dX9_add_16 : decode cX9_add 16 = .ok (.dup, 1) := by decide +kernel
theorem dX9_add_17 : decode cX9_add 17 = .ok (.iconst 3, 1) := by decide +kernel
theorem dX9_add_18 : decode cX9_add 18 = .ok (.iload 4, 2) := by decide +kernel
theorem dX9_add_20 : decode cX9_add 20 = .ok (.iastore, 1) := by decide +kernel
theorem dX9_add_21 : decode cX9_add 21 = .ok (.dup, 1) := by decide +kernel
theorem dX9_add_22 : decode cX9_add 22 = .ok (.iconst 4, 1) := by decide +kernel
theorem dX9_add_23 : decode cX9_add 23 = .ok (.iload 5, 2) := by decide +kernel
theorem dX9_add_25 : decode cX9_add 25 = .ok (.iastore, 1) := by decide +kernel
theorem dX9_add_26 : decode cX9_add 26 = .ok (.dup, 1) := by decide +kernel
theorem dX9_add_27 : decode cX9_add 27 = .ok (.iconst 5, 1) := by decide +kernel
theorem dX9_add_28 : decode cX9_add 28 = .ok (.iload 6, 2) := by decide +kernel
theorem dX9_add_30 : decode cX9_add 30 = .ok (.iastore, 1) := by decide +kernel
theorem dX9_add_31 : decode cX9_add 31 = .ok (.dup, 1) := by decide +kernel
theorem dX9_add_32 : decode cX9_add 32 = .ok (.bipush 6, 2) := by decide +kernel
theorem dX9_add_34 : decode cX9_add 34 = .ok (.iload 7, 2) := by decide +kernel
theorem dX9_add_36 : decode cX9_add 36 = .ok (.iastore, 1) := by decide +kernel
theorem dX9_add_37 : decode cX9_add 37 = .ok (.dup, 1) := by decide +kernel
theorem dX9_add_38 : decode cX9_add 38 = .ok (.bipush 7, 2) := by decide +kernel
theorem dX9_add_40 : decode cX9_add 40 = .ok (.iconst 0, 1) := by decide +kernel
theorem dX9_add_41 : decode cX9_add 41 = .ok (.iastore, 1) := by decide +kernel
theorem dX9_add_42 : decode cX9_add 42 = .ok (.dup, 1) := by decide +kernel
theorem dX9_add_43 : decode cX9_add 43 = .ok (.bipush 8, 2) := by decide +kernel
theorem dX9_add_45 : decode cX9_add 45 = .ok (.iconst 0, 1) := by decide +kernel
theorem dX9_add_46 : decode cX9_add 46 = .ok (.iastore, 1) := by decide +kernel
theorem dX9_add_47 : decode cX9_add 47 = .ok (.dup, 1) := by decide +kernel
theorem dX9_add_48 : decode cX9_add 48 = .ok (.bipush 9, 2) := by decide +kernel
theorem dX9_add_50 : decode cX9_add 50 = .ok (.iconst 0, 1) := by decide +kernel
theorem dX9_add_51 : decode cX9_add 51 = .ok (.iastore, 1) := by decide +kernel
theorem dX9_add_52 : decode cX9_add 52 = .ok (.dup, 1) := by decide +kernel
theorem dX9_add_53 : decode cX9_add 53 = .ok (.bipush 10, 2) := by decide +kernel
theorem dX9_add_55 : decode cX9_add 55 = .ok (.iconst 0, 1) := by decide +kernel
theorem dX9_add_56 : decode cX9_add 56 = .ok (.iastore, 1) := by decide +kernel
theorem dX9_add_57 : decode cX9_add 57 = .ok (.astore 8, 2) := by decide +kernel
theorem dX9_add_59 : decode cX9_add 59 = .ok (.aload 8, 2) := by decide +kernel
theorem dX9_add_61 : decode cX9_add 61 = .ok (.iconst 0, 1) := by decide +kernel
theorem dX9_add_62 : decode cX9_add 62 = .ok (.aload_n 0, 1) := by decide +kernel
theorem dX9_add_63 : decode cX9_add 63 = .ok (.getfield 13, 3) := by decide +kernel
theorem dX9_add_66 : decode cX9_add 66 = .ok (.bipush 11, 2) := by decide +kernel
theorem dX9_add_68 : decode cX9_add 68 = .ok (.aload_n 0, 1) := by decide +kernel
theorem dX9_add_69 : decode cX9_add 69 = .ok (.getfield 32, 3) := by decide +kernel
theorem dX9_add_72 : decode cX9_add 72 = .ok (.imul, 1) := by decide +kernel
theorem dX9_add_73 : decode cX9_add 73 = .ok (.bipush 11, 2) := by decide +kernel
theorem dX9_add_75 : decode cX9_add 75 = .ok (.invokestatic 121, 3) := by decide +kernel
theorem dX9_add_78 : decode cX9_add 78 = .ok (.aload_n 0, 1) := by decide +kernel
theorem dX9_add_79 : decode cX9_add 79 = .ok (.dup, 1) := by decide +kernel
theorem dX9_add_80 : decode cX9_add 80 = .ok (.getfield 32, 3) := by decide +kernel
theorem dX9_add_83 : decode cX9_add 83 = .ok (.iconst 1, 1) := by decide +kernel
theorem dX9_add_84 : decode cX9_add 84 = .ok (.iadd, 1) := by decide +kernel
theorem dX9_add_85 : decode cX9_add 85 = .ok (.putfield 32, 3) := by decide +kernel
theorem dX9_add_88 : decode cX9_add 88 = .ok (.aload_n 0, 1) := by decide +kernel
theorem dX9_add_89 : decode cX9_add 89 = .ok (.invokevirtual 127, 3) := by decide +kernel
theorem dX9_add_92 : decode cX9_add 92 = .ok (.aload_n 0, 1) := by decide +kernel
theorem dX9_add_93 : decode cX9_add 93 = .ok (.getfield 32, 3) := by decide +kernel
theorem dX9_add_96 : decode cX9_add 96 = .ok (.iconst 1, 1) := by decide +kernel
theorem dX9_add_97 : decode cX9_add 97 = .ok (.isub, 1) := by decide +kernel
theorem dX9_add_98 : decode cX9_add 98 = .ok (.ireturn, 1) := by decide +kernel
set_option maxRecDepth 20000 in
theorem ggX9_isPlace_X9_isIn : GoodIn wsX9_isPlace wsX9_isIn := goodIn_r _ [5] rfl (by decide +kernel)
set_option maxRecDepth 20000 in
theorem gX9_isPlace_X9_isIn : GoodIn wsX9_isPlace (va_wsS RX9 35 yX9_isIn wsX9_isIn) := goodIn_app (goodIn_of _ (by decide +kernel)) ggX9_isPlace_X9_isIn
theorem dX9_isPlace_0 : decode cX9_isPlace 0 = .ok (.iload_n 2, 1) := by decide +kernel
theorem dX9_isPlace_1 : decode cX9_isPlace 1 = .ok (.iconst 0, 1) := by decide +kernel
theorem dX9_isPlace_2 : decode cX9_isPlace 2 = .ok (.aload_n 0, 1) := by decide +kernel
theorem dX9_isPlace_3 : decode cX9_isPlace 3 = .ok (.getfield 7, 3) := by decide +kernel
theorem dX9_isPlace_6 : decode cX9_isPlace 6 = .ok (.iconst 1, 1) := by decide +kernel
theorem dX9_isPlace_7 : decode cX9_isPlace 7 = .ok (.isub, 1) := by decide +kernel
theorem dX9_isPlace_8 : decode cX9_isPlace 8 = .ok (.invokestatic 35, 3) := by decide +kernel
theorem dX9_isPlace_11 : decode cX9_isPlace 11 = .ok (.ifCond .eq 25, 3) := by decide +kernel
theorem dX9_isPlace_14 : decode cX9_isPlace 14 = .ok (.iload_n 1, 1) := by decide +kernel
theorem dX9_isPlace_15 : decode cX9_isPlace 15 = .ok (.ifCond .eq 17, 3) := by decide +kernel
theorem dX9_isPlace_18 : decode cX9_isPlace 18 = .ok (.iload_n 3, 1) := by decide +kernel
theorem dX9_isPlace_19 : decode cX9_isPlace 19 = .ok (.iconst 0, 1) := by decide +kernel
theorem dX9_isPlace_20 : decode cX9_isPlace 20 = .ok (.aload_n 0, 1) := by decide +kernel
theorem dX9_isPlace_21 : decode cX9_isPlace 21 = .ok (.getfield 7, 3) := by decide +kernel
theorem dX9_isPlace_24 : decode cX9_isPlace 24 = .ok (.iconst 1, 1) := by decide +kernel
theorem dX9_isPlace_25 : decode cX9_isPlace 25 = .ok (.isub, 1) := by decide +kernel
theorem dX9_isPlace_26 : decode cX9_isPlace 26 = .ok (.invokestatic 35, 3) := by decide +kernel
theorem dX9_isPlace_29 : decode cX9_isPlace 29 = .ok (.ifCond .eq 7, 3) := by decide +kernel
theorem dX9_isPlace_32 : decode cX9_isPlace 32 = .ok (.iconst 1, 1) := by decide +kernel
theorem dX9_isPlace_33 : decode cX9_isPlace 33 = .ok (.goto 4, 3) := by decide +kernel
theorem dX9_isPlace_36 : decode cX9_isPlace 36 = .ok (.iconst 0, 1) := by decide +kernel
theorem dX9_isPlace_37 : decode cX9_isPlace 37 = .ok (.ireturn, 1) := by decide +kernel
set_option maxRecDepth 20000 in
theorem ggX9_point_X9_isObject : GoodIn wsX9_point wsX9_isObject := goodIn_r _ [7, 2, 8, 9, 6, 10, 123, 124, 125, 126, 127, 128, 129, 130, 131, 132] rfl (by decide +kernel)
set_option maxRecDepth 20000 in
theorem gX9_point_X9_isObject : GoodIn wsX9_point (wsV RX9 130 RX9 yX9_isObject wsX9_isObject) := goodIn_app (goodIn_of _ (by decide +kernel)) ggX9_point_X9_isObject
set_option maxRecDepth 20000 in
theorem ggX9_point_X9_fail : GoodIn wsX9_point wsX9_fail := goodIn_r _ [14, 1, 123, 124, 125, 126, 127, 128, 129, 130, 131, 132] rfl (by decide +kernel)
set_option maxRecDepth 20000 in
theorem gX9_point_X9_fail : GoodIn wsX9_point (wsV RX9 52 RX9 yX9_fail wsX9_fail) := goodIn_app (goodIn_of _ (by decide +kernel)) ggX9_point_X9_fail
set_option maxRecDepth 20000 in
theorem ggX9_point_X9_sort : GoodIn wsX9_point wsX9_sort := goodIn_r _ [18, 19, 20, 21, 6, 22, 23, 123, 124, 125, 126, 127, 128, 129, 130, 131, 132] rfl (by decide +kernel)
set_option maxRecDepth 20000 in
theorem gX9_point_X9_sort : GoodIn wsX9_point (wsV RX9 133 RX9 yX9_sort wsX9_sort) := goodIn_app (goodIn_of _ (by decide +kernel)) ggX9_point_X9_sort
set_option maxRecDepth 20000 in
theorem ggX9_point_X9_isPlace : GoodIn wsX9_point wsX9_isPlace := goodIn_r _ [27, 28, 8, 9, 6, 10, 123, 124, 125, 126, 127, 128, 129, 130, 131, 132] rfl (by decide +kernel)
set_option maxRecDepth 20000 in
theorem gX9_point_X9_isPlace : GoodIn wsX9_point (wsV RX9 136 RX9 yX9_isPlace wsX9_isPlace) := goodIn_app (goodIn_of _ (by decide +kernel)) ggX9_point_X9_isPlace
set_option maxRecDepth 20000 in
theorem ggX9_point_X9_add : GoodIn wsX9_point wsX9_add := goodIn_r _ [32, 33, 23, 2, 34, 35, 36, 37, 38, 39, 40, 6, 41, 42, 19, 20, 21, 22, 43, 44, 45, 46, 47, 48, 49, 50, 51, 52, 53, 54, 55, 56, 57, 58, 28, 59, 60, 61, 62, 63, 64, 65, 66, 67, 68, 69, 70, 71, 72, 73, 74, 75, 76, 77, 78, 79, 80, 81, 82, 83, 84, 85, 86, 87, 88, 89, 90, 91, 92, 93, 94, 95, 96, 97, 98, 99, 100, 101, 102, 103, 104, 105, 106, 107, 108, 109, 110, 111, 112, 113, 114, 115, 116, 117, 118, 119, 120, 121, 122, 123, 124, 125, 126, 127, 128, 129, 130, 131, 132] rfl (by decide +kernel)
set_option maxRecDepth 20000 in
theorem gX9_point_X9_add : GoodIn wsX9_point (wsV RX9 140 RX9 yX9_add wsX9_add) := goodIn_app (goodIn_of _ (by decide +kernel)) ggX9_point_X9_add
theorem dX9_point_0 : decode cX9_point 0 = .ok (.aload_n 0, 1) := by decide +kernel
theorem dX9_point_1 : decode cX9_point 1 = .ok (.iconst 0, 1) := by decide +kernel
theorem dX9_point_2 : decode cX9_point 2 = .ok (.putfield 29, 3) := by decide +kernel
theorem dX9_point_5 : decode cX9_point 5 = .ok (.iload_n 1, 1) := by decide +kernel
theorem dX9_point_6 : decode cX9_point 6 = .ok (.iconst (-1), 1) := by decide +kernel
theorem dX9_point_7 : decode cX9_point 7 = .ok (.if_icmp .eq 17, 3) := by decide +kernel
theorem dX9_point_10 : decode cX9_point 10 = .ok (.aload_n 0, 1) := by decide +kernel
theorem dX9_point_11 : decode cX9_point 11 = .ok (.iload_n 1, 1) := by decide +kernel
theorem dX9_point_12 : decode cX9_point 12 = .ok (.invokevirtual 130, 3) := by decide +kernel
theorem dX9_point_15 : decode cX9_point 15 = .ok (.ifCond .ne 9, 3) := by decide +kernel
theorem dX9_point_18 : decode cX9_point 18 = .ok (.aload_n 0, 1) := by decide +kernel
theorem dX9_point_19 : decode cX9_point 19 = .ok (.iconst 1, 1) := by decide +kernel
theorem dX9_point_20 : decode cX9_point 20 = .ok (.invokevirtual 52, 3) := by decide +kernel
theorem dX9_point_23 : decode cX9_point 23 = .ok (.ireturn, 1) := by decide +kernel
theorem dX9_point_24 : decode cX9_point 24 = .ok (.iload_n 1, 1) := by decide +kernel
theorem dX9_point_25 : decode cX9_point 25 = .ok (.iconst (-1), 1) := by decide +kernel
theorem dX9_point_26 : decode cX9_point 26 = .ok (.if_icmp .eq 12, 3) := by decide +kernel
theorem dX9_point_29 : decode cX9_point 29 = .ok (.aload_n 0, 1) := by decide +kernel
theorem dX9_point_30 : decode cX9_point 30 = .ok (.iload_n 1, 1) := by decide +kernel
theorem dX9_point_31 : decode cX9_point 31 = .ok (.invokevirtual 133, 3) := by decide +kernel
theorem dX9_point_34 : decode cX9_point 34 = .ok (.iconst 1, 1) := by decide +kernel
theorem dX9_point_35 : decode cX9_point 35 = .ok (.if_icmp .ne 22, 3) := by decide +kernel
theorem dX9_point_38 : decode cX9_point 38 = .ok (.aload_n 0, 1) := by decide +kernel
theorem dX9_point_39 : decode cX9_point 39 = .ok (.iload_n 1, 1) := by decide +kernel
theorem dX9_point_40 : decode cX9_point 40 = .ok (.iconst (-1), 1) := by decide +kernel
theorem dX9_point_41 : decode cX9_point 41 = .ok (.if_icmp .ne 7, 3) := by decide +kernel
theorem dX9_point_44 : decode cX9_point 44 = .ok (.iconst 1, 1) := by decide +kernel
theorem dX9_point_45 : decode cX9_point 45 = .ok (.goto 4, 3) := by decide +kernel
theorem dX9_point_48 : decode cX9_point 48 = .ok (.iconst 0, 1) := by decide +kernel
theorem dX9_point_49 : decode cX9_point 49 = .ok (.iload_n 2, 1) := by decide +kernel
theorem dX9_point_50 : decode cX9_point 50 = .ok (.iload_n 3, 1) := by decide +kernel
theorem dX9_point_51 : decode cX9_point 51 = .ok (.invokevirtual 136, 3) := by decide +kernel
theorem dX9_point_54 : decode cX9_point 54 = .ok (.ifCond .ne 9, 3) := by decide +kernel
theorem dX9_point_57 : decode cX9_point 57 = .ok (.aload_n 0, 1) := by decide +kernel
theorem dX9_point_58 : decode cX9_point 58 = .ok (.iconst 2, 1) := by decide +kernel
theorem dX9_point_59 : decode cX9_point 59 = .ok (.invokevirtual 52, 3) := by decide +kernel
theorem dX9_point_62 : decode cX9_point 62 = .ok (.ireturn, 1) := by decide +kernel
theorem dX9_point_63 : decode cX9_point 63 = .ok (.aload_n 0, 1) := by decide +kernel
theorem dX9_point_64 : decode cX9_point 64 = .ok (.getfield 32, 3) := by decide +kernel
theorem dX9_point_67 : decode cX9_point 67 = .ok (.bipush 40, 2) := by decide +kernel
theorem dX9_point_69 : decode cX9_point 69 = .ok (.if_icmp .ne 9, 3) := by decide +kernel
theorem dX9_point_72 : decode cX9_point 72 = .ok (.aload_n 0, 1) := by decide +kernel
theorem dX9_point_73 : decode cX9_point 73 = .ok (.iconst 3, 1) := by decide +kernel
theorem dX9_point_74 : decode cX9_point 74 = .ok (.invokevirtual 52, 3) := by decide +kernel
theorem dX9_point_77 : decode cX9_point 77 = .ok (.ireturn, 1) := by decide +kernel
theorem dX9_point_78 : decode cX9_point 78 = .ok (.aload_n 0, 1) := by decide +kernel
theorem dX9_point_79 : decode cX9_point 79 = .ok (.iconst 0, 1) := by decide +kernel
theorem dX9_point_80 : decode cX9_point 80 = .ok (.iload_n 1, 1) := by decide +kernel
theorem dX9_point_81 : decode cX9_point 81 = .ok (.iconst (-1), 1) := by decide +kernel
theorem dX9_point_82 : decode cX9_point 82 = .ok (.if_icmp .ne 7, 3) := by decide +kernel
theorem dX9_point_85 : decode cX9_point 85 = .ok (.iconst 0, 1) := by decide +kernel
theorem dX9_point_86 : decode cX9_point 86 = .ok (.goto 4, 3) := by decide +kernel
theorem dX9_point_89 : decode cX9_point 89 = .ok (.iconst 1, 1) := by decide +kernel
theorem dX9_point_90 : decode cX9_point 90 = .ok (.iload_n 1, 1) := by decide +kernel
theorem dX9_point_91 : decode cX9_point 91 = .ok (.iconst (-1), 1) := by decide +kernel
theorem dX9_point_92 : decode cX9_point 92 = .ok (.iconst (-1), 1) := by decide +kernel
theorem dX9_point_93 : decode cX9_point 93 = .ok (.iload_n 2, 1) := by decide +kernel
theorem dX9_point_94 : decode cX9_point 94 = .ok (.iload_n 3, 1) := by decide +kernel
theorem dX9_point_95 : decode cX9_point 95 = .ok (.invokevirtual 140, 3) := by decide +kernel
theorem dX9_point_98 : decode cX9_point 98 = .ok (.ireturn, 1) := by decide +kernel
set_option maxRecDepth 20000 in
theorem ggX9_areOf_X9_sort : GoodIn wsX9_areOf wsX9_sort := goodIn_r _ [5, 6, 7, 8, 4, 9, 10, 11, 12, 13, 14, 15, 16, 17, 18, 19, 20] rfl (by decide +kernel)
set_option maxRecDepth 20000 in
theorem gX9_areOf_X9_sort : GoodIn wsX9_areOf (wsV RX9 133 RX9 yX9_sort wsX9_sort) := goodIn_app (goodIn_of _ (by decide +kernel)) ggX9_areOf_X9_sort
theorem dX9_areOf_0 : decode cX9_areOf 0 = .ok (.iload_n 2, 1) := by decide +kernel
theorem dX9_areOf_1 : decode cX9_areOf 1 = .ok (.istore 4, 2) := by decide +kernel
theorem dX9_areOf_3 : decode cX9_areOf 3 = .ok (.iconst 1, 1) := by decide +kernel
theorem dX9_areOf_4 : decode cX9_areOf 4 = .ok (.istore 5, 2) := by decide +kernel
theorem dX9_areOf_6 : decode cX9_areOf 6 = .ok (.iconst 0, 1) := by decide +kernel
theorem dX9_areOf_7 : decode cX9_areOf 7 = .ok (.istore 6, 2) := by decide +kernel
theorem dX9_areOf_9 : decode cX9_areOf 9 = .ok (.iload 6, 2) := by decide +kernel
theorem dX9_areOf_11 : decode cX9_areOf 11 = .ok (.aload_n 3, 1) := by decide +kernel
theorem dX9_areOf_12 : decode cX9_areOf 12 = .ok (.arraylength, 1) := by decide +kernel
theorem dX9_areOf_13 : decode cX9_areOf 13 = .ok (.if_icmp .ge 67, 3) := by decide +kernel
theorem dX9_areOf_16 : decode cX9_areOf 16 = .ok (.iload_n 1, 1) := by decide +kernel
theorem dX9_areOf_17 : decode cX9_areOf 17 = .ok (.iload 4, 2) := by decide +kernel
theorem dX9_areOf_19 : decode cX9_areOf 19 = .ok (.idiv, 1) := by decide +kernel
theorem dX9_areOf_20 : decode cX9_areOf 20 = .ok (.bipush 10, 2) := by decide +kernel
theorem dX9_areOf_22 : decode cX9_areOf 22 = .ok (.irem, 1) := by decide +kernel
theorem dX9_areOf_23 : decode cX9_areOf 23 = .ok (.istore 7, 2) := by decide +kernel
theorem dX9_areOf_25 : decode cX9_areOf 25 = .ok (.iload 5, 2) := by decide +kernel
theorem dX9_areOf_27 : decode cX9_areOf 27 = .ok (.ifCond .eq 37, 3) := by decide +kernel
theorem dX9_areOf_30 : decode cX9_areOf 30 = .ok (.iload 7, 2) := by decide +kernel
theorem dX9_areOf_32 : decode cX9_areOf 32 = .ok (.ifCond .ne 13, 3) := by decide +kernel
theorem dX9_areOf_35 : decode cX9_areOf 35 = .ok (.aload_n 3, 1) := by decide +kernel
theorem dX9_areOf_36 : decode cX9_areOf 36 = .ok (.iload 6, 2) := by decide +kernel
theorem dX9_areOf_38 : decode cX9_areOf 38 = .ok (.iaload, 1) := by decide +kernel
theorem dX9_areOf_39 : decode cX9_areOf 39 = .ok (.ifCond .ne 25, 3) := by decide +kernel
theorem dX9_areOf_42 : decode cX9_areOf 42 = .ok (.goto 18, 3) := by decide +kernel
theorem dX9_areOf_45 : decode cX9_areOf 45 = .ok (.aload_n 0, 1) := by decide +kernel
theorem dX9_areOf_46 : decode cX9_areOf 46 = .ok (.aload_n 3, 1) := by decide +kernel
theorem dX9_areOf_47 : decode cX9_areOf 47 = .ok (.iload 6, 2) := by decide +kernel
theorem dX9_areOf_49 : decode cX9_areOf 49 = .ok (.iaload, 1) := by decide +kernel
theorem dX9_areOf_50 : decode cX9_areOf 50 = .ok (.invokevirtual 133, 3) := by decide +kernel
theorem dX9_areOf_53 : decode cX9_areOf 53 = .ok (.iload 7, 2) := by decide +kernel
theorem dX9_areOf_55 : decode cX9_areOf 55 = .ok (.iconst 1, 1) := by decide +kernel
theorem dX9_areOf_56 : decode cX9_areOf 56 = .ok (.isub, 1) := by decide +kernel
theorem dX9_areOf_57 : decode cX9_areOf 57 = .ok (.if_icmp .ne 7, 3) := by decide +kernel
theorem dX9_areOf_60 : decode cX9_areOf 60 = .ok (.iconst 1, 1) := by decide +kernel
theorem dX9_areOf_61 : decode cX9_areOf 61 = .ok (.goto 4, 3) := by decide +kernel
theorem dX9_areOf_64 : decode cX9_areOf 64 = .ok (.iconst 0, 1) := by decide +kernel
theorem dX9_areOf_65 : decode cX9_areOf 65 = .ok (.istore 5, 2) := by decide +kernel
theorem dX9_areOf_67 : decode cX9_areOf 67 = .ok (.iload 4, 2) := by decide +kernel
theorem dX9_areOf_69 : decode cX9_areOf 69 = .ok (.bipush 10, 2) := by decide +kernel
theorem dX9_areOf_71 : decode cX9_areOf 71 = .ok (.idiv, 1) := by decide +kernel
theorem dX9_areOf_72 : decode cX9_areOf 72 = .ok (.istore 4, 2) := by decide +kernel
theorem dX9_areOf_74 : decode cX9_areOf 74 = .ok (.iinc 6 1, 3) := by decide +kernel
theorem dX9_areOf_77 : decode cX9_areOf 77 = .ok (.goto (-68), 3) := by decide +kernel
theorem dX9_areOf_80 : decode cX9_areOf 80 = .ok (.iload 5, 2) := by decide +kernel
theorem dX9_areOf_82 : decode cX9_areOf 82 = .ok (.ireturn, 1) := by decide +kernel
set_option maxRecDepth 20000 in
theorem ggX9_make_X9_isIn : GoodIn wsX9_make wsX9_isIn := goodIn_r _ [8] rfl (by decide +kernel)
set_option maxRecDepth 20000 in
theorem gX9_make_X9_isIn : GoodIn wsX9_make (va_wsS RX9 35 yX9_isIn wsX9_isIn) := goodIn_app (goodIn_of _ (by decide +kernel)) ggX9_make_X9_isIn
set_option maxRecDepth 20000 in
theorem ggX9_make_X9_fail : GoodIn wsX9_make wsX9_fail := goodIn_r _ [12, 1, 124, 125, 126, 127, 128, 129, 130, 131, 132, 133] rfl (by decide +kernel)
set_option maxRecDepth 20000 in
theorem gX9_make_X9_fail : GoodIn wsX9_make (wsV RX9 52 RX9 yX9_fail wsX9_fail) := goodIn_app (goodIn_of _ (by decide +kernel)) ggX9_make_X9_fail
set_option maxRecDepth 20000 in
theorem ggX9_make_X9_isObject : GoodIn wsX9_make wsX9_isObject := goodIn_r _ [16, 4, 5, 6, 7, 8, 124, 125, 126, 127, 128, 129, 130, 131, 132, 133] rfl (by decide +kernel)
set_option maxRecDepth 20000 in
theorem gX9_make_X9_isObject : GoodIn wsX9_make (wsV RX9 130 RX9 yX9_isObject wsX9_isObject) := goodIn_app (goodIn_of _ (by decide +kernel)) ggX9_make_X9_isObject
set_option maxRecDepth 20000 in
theorem ggX9_make_X9_areOf : GoodIn wsX9_make wsX9_areOf := goodIn_r _ [20, 21, 22, 23, 7, 24, 25, 26, 27, 28, 29, 124, 125, 126, 127, 128, 129, 130, 131, 132, 133] rfl (by decide +kernel)
set_option maxRecDepth 20000 in
theorem gX9_make_X9_areOf : GoodIn wsX9_make (wsV RX9 147 RX9 yX9_areOf wsX9_areOf) := goodIn_app (goodIn_of _ (by decide +kernel)) ggX9_make_X9_areOf
set_option maxRecDepth 20000 in
theorem ggX9_make_X9_add : GoodIn wsX9_make wsX9_add := goodIn_r _ [33, 3, 29, 4, 34, 35, 36, 37, 38, 39, 40, 7, 41, 42, 25, 26, 27, 28, 43, 44, 45, 46, 47, 48, 49, 50, 51, 52, 53, 54, 55, 56, 57, 58, 59, 60, 61, 62, 63, 64, 65, 66, 67, 68, 69, 70, 71, 72, 73, 74, 75, 76, 77, 78, 79, 80, 81, 82, 83, 84, 85, 86, 87, 88, 89, 90, 91, 92, 93, 94, 95, 96, 97, 98, 99, 100, 101, 102, 103, 104, 105, 106, 107, 108, 109, 110, 111, 112, 113, 114, 115, 116, 117, 118, 119, 120, 121, 122, 123, 124, 125, 126, 127, 128, 129, 130, 131, 132, 133] rfl (by decide +kernel)
set_option maxRecDepth 20000 in
theorem gX9_make_X9_add : GoodIn wsX9_make (wsV RX9 140 RX9 yX9_add wsX9_add) := goodIn_app (goodIn_of _ (by decide +kernel)) ggX9_make_X9_add
theorem dX9_make_0 : decode cX9_make 0 = .ok (.aload_n 0, 1) := by decide +kernel
theorem dX9_make_1 : decode cX9_make 1 = .ok (.iconst 0, 1) := by decide +kernel
theorem dX9_make_2 : decode cX9_make 2 = .ok (.putfield 29, 3) := by decide +kernel
theorem dX9_make_5 : decode cX9_make 5 = .ok (.iload_n 1, 1) := by decide +kernel
theorem dX9_make_6 : decode cX9_make 6 = .ok (.iconst 2, 1) := by decide +kernel
theorem dX9_make_7 : decode cX9_make 7 = .ok (.bipush 22, 2) := by decide +kernel
theorem dX9_make_9 : decode cX9_make 9 = .ok (.invokestatic 35, 3) := by decide +kernel
theorem dX9_make_12 : decode cX9_make 12 = .ok (.ifCond .eq 11, 3) := by decide +kernel
theorem dX9_make_15 : decode cX9_make 15 = .ok (.getstatic 144, 3) := by decide +kernel
theorem dX9_make_18 : decode cX9_make 18 = .ok (.iload_n 1, 1) := by decide +kernel
theorem dX9_make_19 : decode cX9_make 19 = .ok (.iaload, 1) := by decide +kernel
theorem dX9_make_20 : decode cX9_make 20 = .ok (.ifCond .ge 9, 3) := by decide +kernel
theorem dX9_make_23 : decode cX9_make 23 = .ok (.aload_n 0, 1) := by decide +kernel
theorem dX9_make_24 : decode cX9_make 24 = .ok (.iconst 1, 1) := by decide +kernel
theorem dX9_make_25 : decode cX9_make 25 = .ok (.invokevirtual 52, 3) := by decide +kernel
theorem dX9_make_28 : decode cX9_make 28 = .ok (.ireturn, 1) := by decide +kernel
theorem dX9_make_29 : decode cX9_make 29 = .ok (.getstatic 144, 3) := by decide +kernel
theorem dX9_make_32 : decode cX9_make 32 = .ok (.iload_n 1, 1) := by decide +kernel
theorem dX9_make_33 : decode cX9_make 33 = .ok (.iaload, 1) := by decide +kernel
theorem dX9_make_34 : decode cX9_make 34 = .ok (.bipush 10, 2) := by decide +kernel
theorem dX9_make_36 : decode cX9_make 36 = .ok (.irem, 1) := by decide +kernel
theorem dX9_make_37 : decode cX9_make 37 = .ok (.ifCond .eq 7, 3) := by decide +kernel
theorem dX9_make_40 : decode cX9_make 40 = .ok (.iconst 1, 1) := by decide +kernel
theorem dX9_make_41 : decode cX9_make 41 = .ok (.goto 4, 3) := by decide +kernel
theorem dX9_make_44 : decode cX9_make 44 = .ok (.iconst 0, 1) := by decide +kernel
theorem dX9_make_45 : decode cX9_make 45 = .ok (.istore 5, 2) := by decide +kernel
theorem dX9_make_47 : decode cX9_make 47 = .ok (.aload_n 0, 1) := by decide +kernel
theorem dX9_make_48 : decode cX9_make 48 = .ok (.iload_n 2, 1) := by decide +kernel
theorem dX9_make_49 : decode cX9_make 49 = .ok (.invokevirtual 130, 3) := by decide +kernel
theorem dX9_make_52 : decode cX9_make 52 = .ok (.ifCond .eq 25, 3) := by decide +kernel
theorem dX9_make_55 : decode cX9_make 55 = .ok (.aload_n 0, 1) := by decide +kernel
theorem dX9_make_56 : decode cX9_make 56 = .ok (.iload_n 3, 1) := by decide +kernel
theorem dX9_make_57 : decode cX9_make 57 = .ok (.invokevirtual 130, 3) := by decide +kernel
theorem dX9_make_60 : decode cX9_make 60 = .ok (.ifCond .eq 17, 3) := by decide +kernel
theorem dX9_make_63 : decode cX9_make 63 = .ok (.iload 5, 2) := by decide +kernel
theorem dX9_make_65 : decode cX9_make 65 = .ok (.ifCond .eq 18, 3) := by decide +kernel
theorem dX9_make_68 : decode cX9_make 68 = .ok (.aload_n 0, 1) := by decide +kernel
theorem dX9_make_69 : decode cX9_make 69 = .ok (.iload 4, 2) := by decide +kernel
theorem dX9_make_71 : decode cX9_make 71 = .ok (.invokevirtual 130, 3) := by decide +kernel
theorem dX9_make_74 : decode cX9_make 74 = .ok (.ifCond .ne 9, 3) := by decide +kernel
theorem dX9_make_77 : decode cX9_make 77 = .ok (.aload_n 0, 1) := by decide +kernel
theorem dX9_make_78 : decode cX9_make 78 = .ok (.iconst 2, 1) := by decide +kernel
theorem dX9_make_79 : decode cX9_make 79 = .ok (.invokevirtual 52, 3) := by decide +kernel
theorem dX9_make_82 : decode cX9_make 82 = .ok (.ireturn, 1) := by decide +kernel
theorem dX9_make_83 : decode cX9_make 83 = .ok (.aload_n 0, 1) := by decide +kernel
theorem dX9_make_84 : decode cX9_make 84 = .ok (.getstatic 144, 3) := by decide +kernel
theorem dX9_make_87 : decode cX9_make 87 = .ok (.iload_n 1, 1) := by decide +kernel
theorem dX9_make_88 : decode cX9_make 88 = .ok (.iaload, 1) := by decide +kernel
theorem dX9_make_89 : decode cX9_make 89 = .ok (.bipush 100, 2) := by decide +kernel
theorem dX9_make_91 : decode cX9_make 91 = .ok (.iconst 3, 1) := by decide +kernel
theorem dX9_make_92 : decode cX9_make 92 = .ok (.newarray .int, 2) := by decide +kernel
theorem dX9_make_94 : decode cX9_make 94 = .ok (.dup, 1) := by decide +kernel
theorem dX9_make_95 : decode cX9_make 95 = .ok (.iconst 0, 1) := by decide +kernel
theorem dX9_make_96 : decode cX9_make 96 = .ok (.iload_n 2, 1) := by decide +kernel
theorem dX9_make_97 : decode cX9_make 97 = .ok (.iastore, 1) := by decide +kernel
theorem dX9_make_98 : decode cX9_make 98 = .ok (.dup, 1) := by decide +kernel
theorem dX9_make_99 : decode cX9_make 99 = .ok (.iconst 1, 1) := by decide +kernel
theorem dX9_make_100 : decode cX9_make 100 = .ok (.iload_n 3, 1) := by decide +kernel
theorem dX9_make_101 : decode cX9_make 101 = .ok (.iastore, 1) := by decide +kernel
theorem dX9_make_102 : decode cX9_make 102 = .ok (.dup, 1) := by decide +kernel
theorem dX9_make_103 : decode cX9_make 103 = .ok (.iconst 2, 1) := by decide +kernel
theorem dX9_make_104 : decode cX9_make 104 = .ok (.iload 4, 2) := by decide +kernel
theorem dX9_make_106 : decode cX9_make 106 = .ok (.iastore, 1) := by decide +kernel
theorem dX9_make_107 : decode cX9_make 107 = .ok (.invokevirtual 147, 3) := by decide +kernel
theorem dX9_make_110 : decode cX9_make 110 = .ok (.ifCond .eq 12, 3) := by decide +kernel
theorem dX9_make_113 : decode cX9_make 113 = .ok (.aload_n 0, 1) := by decide +kernel
theorem dX9_make_114 : decode cX9_make 114 = .ok (.getfield 32, 3) := by decide +kernel
theorem dX9_make_117 : decode cX9_make 117 = .ok (.bipush 40, 2) := by decide +kernel
theorem dX9_make_119 : decode cX9_make 119 = .ok (.if_icmp .ne 9, 3) := by decide +kernel
theorem dX9_make_122 : decode cX9_make 122 = .ok (.aload_n 0, 1) := by decide +kernel
theorem dX9_make_123 : decode cX9_make 123 = .ok (.iconst 3, 1) := by decide +kernel
theorem dX9_make_124 : decode cX9_make 124 = .ok (.invokevirtual 52, 3) := by decide +kernel
theorem dX9_make_127 : decode cX9_make 127 = .ok (.ireturn, 1) := by decide +kernel
theorem dX9_make_128 : decode cX9_make 128 = .ok (.aload_n 0, 1) := by decide +kernel
theorem dX9_make_129 : decode cX9_make 129 = .ok (.iload_n 1, 1) := by decide +kernel
theorem dX9_make_130 : decode cX9_make 130 = .ok (.bipush 10, 2) := by decide +kernel
theorem dX9_make_132 : decode cX9_make 132 = .ok (.if_icmp .ge 7, 3) := by decide +kernel
theorem dX9_make_135 : decode cX9_make 135 = .ok (.iconst 0, 1) := by decide +kernel
theorem dX9_make_136 : decode cX9_make 136 = .ok (.goto 14, 3) := by decide +kernel
theorem dX9_make_139 : decode cX9_make 139 = .ok (.iload_n 1, 1) := by decide +kernel
theorem dX9_make_140 : decode cX9_make 140 = .ok (.bipush 20, 2) := by decide +kernel
theorem dX9_make_142 : decode cX9_make 142 = .ok (.if_icmp .ge 7, 3) := by decide +kernel
theorem dX9_make_145 : decode cX9_make 145 = .ok (.iconst 1, 1) := by decide +kernel
theorem dX9_make_146 : decode cX9_make 146 = .ok (.goto 4, 3) := by decide +kernel
theorem dX9_make_149 : decode cX9_make 149 = .ok (.iconst 2, 1) := by decide +kernel
theorem dX9_make_150 : decode cX9_make 150 = .ok (.iload_n 1, 1) := by decide +kernel
theorem dX9_make_151 : decode cX9_make 151 = .ok (.iload_n 2, 1) := by decide +kernel
theorem dX9_make_152 : decode cX9_make 152 = .ok (.iload_n 3, 1) := by decide +kernel
theorem dX9_make_153 : decode cX9_make 153 = .ok (.iload 5, 2) := by decide +kernel
theorem dX9_make_155 : decode cX9_make 155 = .ok (.ifCond .eq 8, 3) := by decide +kernel
theorem dX9_make_158 : decode cX9_make 158 = .ok (.iload 4, 2) := by decide +kernel
theorem dX9_make_160 : decode cX9_make 160 = .ok (.goto 4, 3) := by decide +kernel
theorem dX9_make_163 : decode cX9_make 163 = .ok (.iconst (-1), 1) := by decide +kernel
theorem dX9_make_164 : decode cX9_make 164 = .ok (.iconst 0, 1) := by decide +kernel
theorem dX9_make_165 : decode cX9_make 165 = .ok (.iconst 0, 1) := by decide +kernel
theorem dX9_make_166 : decode cX9_make 166 = .ok (.invokevirtual 140, 3) := by decide +kernel
theorem dX9_make_169 : decode cX9_make 169 = .ok (.ireturn, 1) := by decide +kernel
set_option maxRecDepth 20000 in
theorem ggX9_place_X9_findAll : GoodIn wsX9_place wsX9_findAll := goodIn_r _ [6, 7, 1, 8, 9, 10, 11, 5, 12, 13, 14, 15, 16, 17, 18, 19, 20, 21, 22, 23, 24, 25, 26, 27, 28, 29, 30, 31, 32, 33, 34, 35, 36, 37, 38, 39, 40, 41, 42, 43, 44, 45, 46, 47, 48, 49, 50, 51, 52, 53, 54, 55, 56, 57, 58, 59, 60, 61, 62, 63, 64, 65, 66, 67, 68, 69, 70, 71, 72, 73, 74, 75, 76, 77, 78, 79, 80, 81, 82, 83, 84, 85, 86, 87, 88, 89, 90, 91, 92, 93, 94, 95, 96, 97, 98, 99, 100, 101, 102, 103] rfl (by decide +kernel)
set_option maxRecDepth 20000 in
theorem gX9_place_X9_findAll : GoodIn wsX9_place (wsV RX9 127 RX9 yX9_findAll wsX9_findAll) := goodIn_app (goodIn_of _ (by decide +kernel)) ggX9_place_X9_findAll
theorem dX9_place_0 : decode cX9_place 0 = .ok (.aload_n 0, 1) := by decide +kernel
theorem dX9_place_1 : decode cX9_place 1 = .ok (.getfield 13, 3) := by decide +kernel
theorem dX9_place_4 : decode cX9_place 4 = .ok (.bipush 11, 2) := by decide +kernel
theorem dX9_place_6 : decode cX9_place 6 = .ok (.iload_n 1, 1) := by decide +kernel
theorem dX9_place_7 : decode cX9_place 7 = .ok (.imul, 1) := by decide +kernel
theorem dX9_place_8 : decode cX9_place 8 = .ok (.iconst 5, 1) := by decide +kernel
theorem dX9_place_9 : decode cX9_place 9 = .ok (.iadd, 1) := by decide +kernel
theorem dX9_place_10 : decode cX9_place 10 = .ok (.iload_n 2, 1) := by decide +kernel
theorem dX9_place_11 : decode cX9_place 11 = .ok (.iastore, 1) := by decide +kernel
theorem dX9_place_12 : decode cX9_place 12 = .ok (.aload_n 0, 1) := by decide +kernel
theorem dX9_place_13 : decode cX9_place 13 = .ok (.getfield 13, 3) := by decide +kernel
theorem dX9_place_16 : decode cX9_place 16 = .ok (.bipush 11, 2) := by decide +kernel
theorem dX9_place_18 : decode cX9_place 18 = .ok (.iload_n 1, 1) := by decide +kernel
theorem dX9_place_19 : decode cX9_place 19 = .ok (.imul, 1) := by decide +kernel
theorem dX9_place_20 : decode cX9_place 20 = .ok (.iconst 5, 1) := by decide +kernel
theorem dX9_place_21 : decode cX9_place 21 = .ok (.iadd, 1) := by decide +kernel
theorem dX9_place_22 : decode cX9_place 22 = .ok (.iconst 1, 1) := by decide +kernel
theorem dX9_place_23 : decode cX9_place 23 = .ok (.iadd, 1) := by decide +kernel
theorem dX9_place_24 : decode cX9_place 24 = .ok (.iload_n 3, 1) := by decide +kernel
theorem dX9_place_25 : decode cX9_place 25 = .ok (.iastore, 1) := by decide +kernel
theorem dX9_place_26 : decode cX9_place 26 = .ok (.aload_n 0, 1) := by decide +kernel
theorem dX9_place_27 : decode cX9_place 27 = .ok (.invokevirtual 127, 3) := by decide +kernel
theorem dX9_place_30 : decode cX9_place 30 = .ok (.return_, 1) := by decide +kernel
set_option maxRecDepth 20000 in
theorem ggX9_move_X9_isObject : GoodIn wsX9_move wsX9_isObject := goodIn_r _ [6, 7, 8, 9, 5, 10, 119, 120, 121, 122, 123, 124, 125, 126, 127, 128] rfl (by decide +kernel)
set_option maxRecDepth 20000 in
theorem gX9_move_X9_isObject : GoodIn wsX9_move (wsV RX9 130 RX9 yX9_isObject wsX9_isObject) := goodIn_app (goodIn_of _ (by decide +kernel)) ggX9_move_X9_isObject
set_option maxRecDepth 20000 in
theorem ggX9_move_X9_fail : GoodIn wsX9_move wsX9_fail := goodIn_r _ [14, 1, 119, 120, 121, 122, 123, 124, 125, 126, 127, 128] rfl (by decide +kernel)
set_option maxRecDepth 20000 in
theorem gX9_move_X9_fail : GoodIn wsX9_move (wsV RX9 52 RX9 yX9_fail wsX9_fail) := goodIn_app (goodIn_of _ (by decide +kernel)) ggX9_move_X9_fail
