set_option maxRecDepth 20000 in
theorem ggX9_mirror_X9_mod : GoodIn wsX9_mirror wsX9_mod := goodIn_r _ [23, 1, 24, 25, 26, 27, 37, 38, 39, 40, 41, 42, 43, 44, 45, 46] (by decide +kernel) (by decide +kernel)
set_option maxRecDepth 20000 in
theorem gX9_mirror_X9_mod : GoodIn wsX9_mirror (wsV RX9 48 RX9 yX9_mod wsX9_mod) := goodIn_app (goodIn_of _ (by decide +kernel)) ggX9_mirror_X9_mod
set_option maxRecDepth 20000 in
theorem ggX9_mirror_X9_opposite : GoodIn wsX9_mirror wsX9_opposite := goodIn_r _ [31, 1, 37, 38, 39, 40, 41, 42, 43, 44, 45, 46] (by decide +kernel) (by decide +kernel)
set_option maxRecDepth 20000 in
theorem gX9_mirror_X9_opposite : GoodIn wsX9_mirror (wsV RX9 58 RX9 yX9_opposite wsX9_opposite) := goodIn_app (goodIn_of _ (by decide +kernel)) ggX9_mirror_X9_opposite
set_option maxRecDepth 20000 in
theorem ggX9_mirror_X9_lay : GoodIn wsX9_mirror wsX9_lay := goodIn_r _ [35, 36, 20, 21, 22, 5, 23, 1, 24, 25, 26, 27, 37, 38, 39, 40, 41, 42, 43, 44, 45, 46] (by decide +kernel) (by decide +kernel)
set_option maxRecDepth 20000 in
theorem gX9_mirror_X9_lay : GoodIn wsX9_mirror (wsV RX9 61 RX9 yX9_lay wsX9_lay) := goodIn_app (goodIn_of _ (by decide +kernel)) ggX9_mirror_X9_lay
theorem dX9_mirror_0 : decode cX9_mirror 0 = .ok (.aload_n 0, 1) := by decide +kernel
theorem dX9_mirror_1 : decode cX9_mirror 1 = .ok (.iload_n 2, 1) := by decide +kernel
theorem dX9_mirror_2 : decode cX9_mirror 2 = .ok (.invokevirtual 68, 3) := by decide +kernel
theorem dX9_mirror_5 : decode cX9_mirror 5 = .ok (.istore_n 3, 1) := by decide +kernel
theorem dX9_mirror_6 : decode cX9_mirror 6 = .ok (.aload_n 0, 1) := by decide +kernel
theorem dX9_mirror_7 : decode cX9_mirror 7 = .ok (.iload_n 2, 1) := by decide +kernel
theorem dX9_mirror_8 : decode cX9_mirror 8 = .ok (.invokevirtual 71, 3) := by decide +kernel
theorem dX9_mirror_11 : decode cX9_mirror 11 = .ok (.istore 4, 2) := by decide +kernel
theorem dX9_mirror_13 : decode cX9_mirror 13 = .ok (.iconst 2, 1) := by decide +kernel
theorem dX9_mirror_14 : decode cX9_mirror 14 = .ok (.aload_n 0, 1) := by decide +kernel
theorem dX9_mirror_15 : decode cX9_mirror 15 = .ok (.iload_n 3, 1) := by decide +kernel
theorem dX9_mirror_16 : decode cX9_mirror 16 = .ok (.aload_n 0, 1) := by decide +kernel
theorem dX9_mirror_17 : decode cX9_mirror 17 = .ok (.iload_n 1, 1) := by decide +kernel
theorem dX9_mirror_18 : decode cX9_mirror 18 = .ok (.invokevirtual 68, 3) := by decide +kernel
theorem dX9_mirror_21 : decode cX9_mirror 21 = .ok (.imul, 1) := by decide +kernel
theorem dX9_mirror_22 : decode cX9_mirror 22 = .ok (.iload 4, 2) := by decide +kernel
theorem dX9_mirror_24 : decode cX9_mirror 24 = .ok (.aload_n 0, 1) := by decide +kernel
theorem dX9_mirror_25 : decode cX9_mirror 25 = .ok (.iload_n 1, 1) := by decide +kernel
theorem dX9_mirror_26 : decode cX9_mirror 26 = .ok (.invokevirtual 71, 3) := by decide +kernel
theorem dX9_mirror_29 : decode cX9_mirror 29 = .ok (.imul, 1) := by decide +kernel
theorem dX9_mirror_30 : decode cX9_mirror 30 = .ok (.iadd, 1) := by decide +kernel
theorem dX9_mirror_31 : decode cX9_mirror 31 = .ok (.aload_n 0, 1) := by decide +kernel
theorem dX9_mirror_32 : decode cX9_mirror 32 = .ok (.iload_n 2, 1) := by decide +kernel
theorem dX9_mirror_33 : decode cX9_mirror 33 = .ok (.invokevirtual 74, 3) := by decide +kernel
theorem dX9_mirror_36 : decode cX9_mirror 36 = .ok (.iadd, 1) := by decide +kernel
theorem dX9_mirror_37 : decode cX9_mirror 37 = .ok (.invokevirtual 48, 3) := by decide +kernel
theorem dX9_mirror_40 : decode cX9_mirror 40 = .ok (.imul, 1) := by decide +kernel
theorem dX9_mirror_41 : decode cX9_mirror 41 = .ok (.aload_n 0, 1) := by decide +kernel
theorem dX9_mirror_42 : decode cX9_mirror 42 = .ok (.aload_n 0, 1) := by decide +kernel
theorem dX9_mirror_43 : decode cX9_mirror 43 = .ok (.iload_n 3, 1) := by decide +kernel
theorem dX9_mirror_44 : decode cX9_mirror 44 = .ok (.iload_n 3, 1) := by decide +kernel
theorem dX9_mirror_45 : decode cX9_mirror 45 = .ok (.imul, 1) := by decide +kernel
theorem dX9_mirror_46 : decode cX9_mirror 46 = .ok (.iload 4, 2) := by decide +kernel
theorem dX9_mirror_48 : decode cX9_mirror 48 = .ok (.iload 4, 2) := by decide +kernel
theorem dX9_mirror_50 : decode cX9_mirror 50 = .ok (.imul, 1) := by decide +kernel
theorem dX9_mirror_51 : decode cX9_mirror 51 = .ok (.iadd, 1) := by decide +kernel
theorem dX9_mirror_52 : decode cX9_mirror 52 = .ok (.invokevirtual 48, 3) := by decide +kernel
theorem dX9_mirror_55 : decode cX9_mirror 55 = .ok (.invokevirtual 58, 3) := by decide +kernel
theorem dX9_mirror_58 : decode cX9_mirror 58 = .ok (.imul, 1) := by decide +kernel
theorem dX9_mirror_59 : decode cX9_mirror 59 = .ok (.aload_n 0, 1) := by decide +kernel
theorem dX9_mirror_60 : decode cX9_mirror 60 = .ok (.getfield 7, 3) := by decide +kernel
theorem dX9_mirror_63 : decode cX9_mirror 63 = .ok (.irem, 1) := by decide +kernel
theorem dX9_mirror_64 : decode cX9_mirror 64 = .ok (.istore 5, 2) := by decide +kernel
theorem dX9_mirror_66 : decode cX9_mirror 66 = .ok (.aload_n 0, 1) := by decide +kernel
theorem dX9_mirror_67 : decode cX9_mirror 67 = .ok (.aload_n 0, 1) := by decide +kernel
theorem dX9_mirror_68 : decode cX9_mirror 68 = .ok (.iload_n 1, 1) := by decide +kernel
theorem dX9_mirror_69 : decode cX9_mirror 69 = .ok (.invokevirtual 68, 3) := by decide +kernel
theorem dX9_mirror_72 : decode cX9_mirror 72 = .ok (.iload 5, 2) := by decide +kernel
theorem dX9_mirror_74 : decode cX9_mirror 74 = .ok (.iload_n 3, 1) := by decide +kernel
theorem dX9_mirror_75 : decode cX9_mirror 75 = .ok (.imul, 1) := by decide +kernel
theorem dX9_mirror_76 : decode cX9_mirror 76 = .ok (.isub, 1) := by decide +kernel
theorem dX9_mirror_77 : decode cX9_mirror 77 = .ok (.aload_n 0, 1) := by decide +kernel
theorem dX9_mirror_78 : decode cX9_mirror 78 = .ok (.iload_n 1, 1) := by decide +kernel
theorem dX9_mirror_79 : decode cX9_mirror 79 = .ok (.invokevirtual 71, 3) := by decide +kernel
theorem dX9_mirror_82 : decode cX9_mirror 82 = .ok (.iload 5, 2) := by decide +kernel
theorem dX9_mirror_84 : decode cX9_mirror 84 = .ok (.iload 4, 2) := by decide +kernel
theorem dX9_mirror_86 : decode cX9_mirror 86 = .ok (.imul, 1) := by decide +kernel
theorem dX9_mirror_87 : decode cX9_mirror 87 = .ok (.isub, 1) := by decide +kernel
theorem dX9_mirror_88 : decode cX9_mirror 88 = .ok (.iconst 0, 1) := by decide +kernel
theorem dX9_mirror_89 : decode cX9_mirror 89 = .ok (.invokevirtual 61, 3) := by decide +kernel
theorem dX9_mirror_92 : decode cX9_mirror 92 = .ok (.ireturn, 1) := by decide +kernel
set_option maxRecDepth 20000 in
theorem ggX9_areInLine_X9_x : GoodIn wsX9_areInLine wsX9_x := goodIn_r _ [5, 6, 7, 8, 4, 9, 10, 24, 25, 26, 27, 28, 29, 30, 31, 32, 33] (by decide +kernel) (by decide +kernel)
set_option maxRecDepth 20000 in
theorem gX9_areInLine_X9_x : GoodIn wsX9_areInLine (wsV RX9 68 RX9 yX9_x wsX9_x) := goodIn_app (goodIn_of _ (by decide +kernel)) ggX9_areInLine_X9_x
set_option maxRecDepth 20000 in
theorem ggX9_areInLine_X9_y : GoodIn wsX9_areInLine wsX9_y := goodIn_r _ [14, 6, 7, 8, 4, 9, 10, 24, 25, 26, 27, 28, 29, 30, 31, 32, 33] (by decide +kernel) (by decide +kernel)
set_option maxRecDepth 20000 in
theorem gX9_areInLine_X9_y : GoodIn wsX9_areInLine (wsV RX9 71 RX9 yX9_y wsX9_y) := goodIn_app (goodIn_of _ (by decide +kernel)) ggX9_areInLine_X9_y
set_option maxRecDepth 20000 in
theorem ggX9_areInLine_X9_mod : GoodIn wsX9_areInLine wsX9_mod := goodIn_r _ [18, 19, 20, 21, 22, 23, 24, 25, 26, 27, 28, 29, 30, 31, 32, 33] (by decide +kernel) (by decide +kernel)
set_option maxRecDepth 20000 in
theorem gX9_areInLine_X9_mod : GoodIn wsX9_areInLine (wsV RX9 48 RX9 yX9_mod wsX9_mod) := goodIn_app (goodIn_of _ (by decide +kernel)) ggX9_areInLine_X9_mod
theorem dX9_areInLine_0 : decode cX9_areInLine 0 = .ok (.aload_n 0, 1) := by decide +kernel
theorem dX9_areInLine_1 : decode cX9_areInLine 1 = .ok (.aload_n 0, 1) := by decide +kernel
theorem dX9_areInLine_2 : decode cX9_areInLine 2 = .ok (.iload_n 2, 1) := by decide +kernel
theorem dX9_areInLine_3 : decode cX9_areInLine 3 = .ok (.invokevirtual 68, 3) := by decide +kernel
theorem dX9_areInLine_6 : decode cX9_areInLine 6 = .ok (.aload_n 0, 1) := by decide +kernel
theorem dX9_areInLine_7 : decode cX9_areInLine 7 = .ok (.iload_n 1, 1) := by decide +kernel
theorem dX9_areInLine_8 : decode cX9_areInLine 8 = .ok (.invokevirtual 68, 3) := by decide +kernel
theorem dX9_areInLine_11 : decode cX9_areInLine 11 = .ok (.isub, 1) := by decide +kernel
theorem dX9_areInLine_12 : decode cX9_areInLine 12 = .ok (.aload_n 0, 1) := by decide +kernel
theorem dX9_areInLine_13 : decode cX9_areInLine 13 = .ok (.iload_n 3, 1) := by decide +kernel
theorem dX9_areInLine_14 : decode cX9_areInLine 14 = .ok (.invokevirtual 71, 3) := by decide +kernel
theorem dX9_areInLine_17 : decode cX9_areInLine 17 = .ok (.aload_n 0, 1) := by decide +kernel
theorem dX9_areInLine_18 : decode cX9_areInLine 18 = .ok (.iload_n 1, 1) := by decide +kernel
theorem dX9_areInLine_19 : decode cX9_areInLine 19 = .ok (.invokevirtual 71, 3) := by decide +kernel
theorem dX9_areInLine_22 : decode cX9_areInLine 22 = .ok (.isub, 1) := by decide +kernel
theorem dX9_areInLine_23 : decode cX9_areInLine 23 = .ok (.imul, 1) := by decide +kernel
theorem dX9_areInLine_24 : decode cX9_areInLine 24 = .ok (.aload_n 0, 1) := by decide +kernel
theorem dX9_areInLine_25 : decode cX9_areInLine 25 = .ok (.iload_n 3, 1) := by decide +kernel
theorem dX9_areInLine_26 : decode cX9_areInLine 26 = .ok (.invokevirtual 68, 3) := by decide +kernel
theorem dX9_areInLine_29 : decode cX9_areInLine 29 = .ok (.aload_n 0, 1) := by decide +kernel
theorem dX9_areInLine_30 : decode cX9_areInLine 30 = .ok (.iload_n 1, 1) := by decide +kernel
theorem dX9_areInLine_31 : decode cX9_areInLine 31 = .ok (.invokevirtual 68, 3) := by decide +kernel
theorem dX9_areInLine_34 : decode cX9_areInLine 34 = .ok (.isub, 1) := by decide +kernel
theorem dX9_areInLine_35 : decode cX9_areInLine 35 = .ok (.aload_n 0, 1) := by decide +kernel
theorem dX9_areInLine_36 : decode cX9_areInLine 36 = .ok (.iload_n 2, 1) := by decide +kernel
theorem dX9_areInLine_37 : decode cX9_areInLine 37 = .ok (.invokevirtual 71, 3) := by decide +kernel
theorem dX9_areInLine_40 : decode cX9_areInLine 40 = .ok (.aload_n 0, 1) := by decide +kernel
theorem dX9_areInLine_41 : decode cX9_areInLine 41 = .ok (.iload_n 1, 1) := by decide +kernel
theorem dX9_areInLine_42 : decode cX9_areInLine 42 = .ok (.invokevirtual 71, 3) := by decide +kernel
theorem dX9_areInLine_45 : decode cX9_areInLine 45 = .ok (.isub, 1) := by decide +kernel
theorem dX9_areInLine_46 : decode cX9_areInLine 46 = .ok (.imul, 1) := by decide +kernel
theorem dX9_areInLine_47 : decode cX9_areInLine 47 = .ok (.isub, 1) := by decide +kernel
theorem dX9_areInLine_48 : decode cX9_areInLine 48 = .ok (.invokevirtual 48, 3) := by decide +kernel
theorem dX9_areInLine_51 : decode cX9_areInLine 51 = .ok (.ifCond .ne 7, 3) := by decide +kernel
theorem dX9_areInLine_54 : decode cX9_areInLine 54 = .ok (.iconst 1, 1) := by decide +kernel
theorem dX9_areInLine_55 : decode cX9_areInLine 55 = .ok (.goto 4, 3) := by decide +kernel
theorem dX9_areInLine_58 : decode cX9_areInLine 58 = .ok (.iconst 0, 1) := by decide +kernel
theorem dX9_areInLine_59 : decode cX9_areInLine 59 = .ok (.ireturn, 1) := by decide +kernel
set_option maxRecDepth 20000 in
theorem ggX9_layCircle_X9_x : GoodIn wsX9_layCircle wsX9_x := goodIn_r _ [5, 6, 7, 8, 4, 9, 10, 33, 34, 35, 36, 37, 38, 39, 40, 41, 42] (by decide +kernel) (by decide +kernel)
set_option maxRecDepth 20000 in
theorem gX9_layCircle_X9_x : GoodIn wsX9_layCircle (wsV RX9 68 RX9 yX9_x wsX9_x) := goodIn_app (goodIn_of _ (by decide +kernel)) ggX9_layCircle_X9_x
set_option maxRecDepth 20000 in
theorem ggX9_layCircle_X9_y : GoodIn wsX9_layCircle wsX9_y := goodIn_r _ [14, 6, 7, 8, 4, 9, 10, 33, 34, 35, 36, 37, 38, 39, 40, 41, 42] (by decide +kernel) (by decide +kernel)
set_option maxRecDepth 20000 in
theorem gX9_layCircle_X9_y : GoodIn wsX9_layCircle (wsV RX9 71 RX9 yX9_y wsX9_y) := goodIn_app (goodIn_of _ (by decide +kernel)) ggX9_layCircle_X9_y
set_option maxRecDepth 20000 in
theorem ggX9_layCircle_X9_squareOf : GoodIn wsX9_layCircle wsX9_squareOf := goodIn_r _ [18, 19, 20, 21, 4, 22, 23, 24, 25, 26, 27, 33, 34, 35, 36, 37, 38, 39, 40, 41, 42] (by decide +kernel) (by decide +kernel)
set_option maxRecDepth 20000 in
theorem gX9_layCircle_X9_squareOf : GoodIn wsX9_layCircle (wsV RX9 64 RX9 yX9_squareOf wsX9_squareOf) := goodIn_app (goodIn_of _ (by decide +kernel)) ggX9_layCircle_X9_squareOf
set_option maxRecDepth 20000 in
theorem ggX9_layCircle_X9_lay : GoodIn wsX9_layCircle wsX9_lay := goodIn_r _ [31, 32, 19, 20, 21, 4, 22, 23, 24, 25, 26, 27, 33, 34, 35, 36, 37, 38, 39, 40, 41, 42] (by decide +kernel) (by decide +kernel)
set_option maxRecDepth 20000 in
theorem gX9_layCircle_X9_lay : GoodIn wsX9_layCircle (wsV RX9 61 RX9 yX9_lay wsX9_lay) := goodIn_app (goodIn_of _ (by decide +kernel)) ggX9_layCircle_X9_lay
theorem dX9_layCircle_0 : decode cX9_layCircle 0 = .ok (.aload_n 0, 1) := by decide +kernel
theorem dX9_layCircle_1 : decode cX9_layCircle 1 = .ok (.aload_n 0, 1) := by decide +kernel
theorem dX9_layCircle_2 : decode cX9_layCircle 2 = .ok (.iload_n 2, 1) := by decide +kernel
theorem dX9_layCircle_3 : decode cX9_layCircle 3 = .ok (.invokevirtual 68, 3) := by decide +kernel
theorem dX9_layCircle_6 : decode cX9_layCircle 6 = .ok (.aload_n 0, 1) := by decide +kernel
theorem dX9_layCircle_7 : decode cX9_layCircle 7 = .ok (.iload_n 2, 1) := by decide +kernel
theorem dX9_layCircle_8 : decode cX9_layCircle 8 = .ok (.invokevirtual 71, 3) := by decide +kernel
theorem dX9_layCircle_11 : decode cX9_layCircle 11 = .ok (.aload_n 0, 1) := by decide +kernel
theorem dX9_layCircle_12 : decode cX9_layCircle 12 = .ok (.iload_n 3, 1) := by decide +kernel
theorem dX9_layCircle_13 : decode cX9_layCircle 13 = .ok (.invokevirtual 68, 3) := by decide +kernel
theorem dX9_layCircle_16 : decode cX9_layCircle 16 = .ok (.aload_n 0, 1) := by decide +kernel
theorem dX9_layCircle_17 : decode cX9_layCircle 17 = .ok (.iload_n 3, 1) := by decide +kernel
theorem dX9_layCircle_18 : decode cX9_layCircle 18 = .ok (.invokevirtual 71, 3) := by decide +kernel
theorem dX9_layCircle_21 : decode cX9_layCircle 21 = .ok (.invokevirtual 64, 3) := by decide +kernel
theorem dX9_layCircle_24 : decode cX9_layCircle 24 = .ok (.istore 4, 2) := by decide +kernel
theorem dX9_layCircle_26 : decode cX9_layCircle 26 = .ok (.iload 4, 2) := by decide +kernel
theorem dX9_layCircle_28 : decode cX9_layCircle 28 = .ok (.ifCond .eq 26, 3) := by decide +kernel
theorem dX9_layCircle_31 : decode cX9_layCircle 31 = .ok (.aload_n 0, 1) := by decide +kernel
theorem dX9_layCircle_32 : decode cX9_layCircle 32 = .ok (.aload_n 0, 1) := by decide +kernel
theorem dX9_layCircle_33 : decode cX9_layCircle 33 = .ok (.iload_n 1, 1) := by decide +kernel
theorem dX9_layCircle_34 : decode cX9_layCircle 34 = .ok (.invokevirtual 68, 3) := by decide +kernel
theorem dX9_layCircle_37 : decode cX9_layCircle 37 = .ok (.aload_n 0, 1) := by decide +kernel
theorem dX9_layCircle_38 : decode cX9_layCircle 38 = .ok (.iload_n 1, 1) := by decide +kernel
theorem dX9_layCircle_39 : decode cX9_layCircle 39 = .ok (.invokevirtual 71, 3) := by decide +kernel
theorem dX9_layCircle_42 : decode cX9_layCircle 42 = .ok (.iload 4, 2) := by decide +kernel
theorem dX9_layCircle_44 : decode cX9_layCircle 44 = .ok (.invokevirtual 61, 3) := by decide +kernel
theorem dX9_layCircle_47 : decode cX9_layCircle 47 = .ok (.ifCond .eq 7, 3) := by decide +kernel
theorem dX9_layCircle_50 : decode cX9_layCircle 50 = .ok (.iconst 1, 1) := by decide +kernel
theorem dX9_layCircle_51 : decode cX9_layCircle 51 = .ok (.goto 4, 3) := by decide +kernel
theorem dX9_layCircle_54 : decode cX9_layCircle 54 = .ok (.iconst 0, 1) := by decide +kernel
theorem dX9_layCircle_55 : decode cX9_layCircle 55 = .ok (.ireturn, 1) := by decide +kernel
set_option maxRecDepth 20000 in
theorem ggX9_circleThrough_X9_areInLine : GoodIn wsX9_circleThrough wsX9_areInLine := goodIn_r _ [6, 7, 8, 9, 5, 10, 11, 12, 13, 14, 15, 16, 17, 18, 19, 20, 21, 22, 23, 24, 25, 26, 27, 28, 53, 54, 55, 56, 57, 58, 59, 60, 61, 62] (by decide +kernel) (by decide +kernel)
set_option maxRecDepth 20000 in
theorem gX9_circleThrough_X9_areInLine : GoodIn wsX9_circleThrough (wsV RX9 84 RX9 yX9_areInLine wsX9_areInLine) := goodIn_app (goodIn_of _ (by decide +kernel)) ggX9_circleThrough_X9_areInLine
set_option maxRecDepth 20000 in
theorem ggX9_circleThrough_X9_bisector : GoodIn wsX9_circleThrough wsX9_bisector := goodIn_r _ [32, 7, 8, 9, 5, 10, 11, 12, 13, 14, 15, 16, 17, 18, 19, 33, 34, 35, 36, 20, 21, 22, 23, 24, 25, 26, 27, 28, 37, 38, 39, 40, 41, 42, 43, 44, 1, 53, 54, 55, 56, 57, 58, 59, 60, 61, 62] (by decide +kernel) (by decide +kernel)
set_option maxRecDepth 20000 in
theorem gX9_circleThrough_X9_bisector : GoodIn wsX9_circleThrough (wsV RX9 87 RX9 yX9_bisector wsX9_bisector) := goodIn_app (goodIn_of _ (by decide +kernel)) ggX9_circleThrough_X9_bisector
set_option maxRecDepth 20000 in
theorem ggX9_circleThrough_X9_intersect : GoodIn wsX9_circleThrough wsX9_intersect := goodIn_r _ [48, 20, 21, 22, 5, 23, 24, 25, 26, 27, 28, 37, 38, 39, 40, 41, 42, 43, 44, 1, 53, 54, 55, 56, 57, 58, 59, 60, 61, 62] (by decide +kernel) (by decide +kernel)
set_option maxRecDepth 20000 in
theorem gX9_circleThrough_X9_intersect : GoodIn wsX9_circleThrough (wsV RX9 91 RX9 yX9_intersect wsX9_intersect) := goodIn_app (goodIn_of _ (by decide +kernel)) ggX9_circleThrough_X9_intersect
set_option maxRecDepth 20000 in
theorem ggX9_circleThrough_X9_x : GoodIn wsX9_circleThrough wsX9_x := goodIn_r _ [10, 11, 12, 13, 5, 14, 15, 53, 54, 55, 56, 57, 58, 59, 60, 61, 62] (by decide +kernel) (by decide +kernel)
set_option maxRecDepth 20000 in
theorem gX9_circleThrough_X9_x : GoodIn wsX9_circleThrough (wsV RX9 68 RX9 yX9_x wsX9_x) := goodIn_app (goodIn_of _ (by decide +kernel)) ggX9_circleThrough_X9_x
set_option maxRecDepth 20000 in
theorem ggX9_circleThrough_X9_y : GoodIn wsX9_circleThrough wsX9_y := goodIn_r _ [19, 11, 12, 13, 5, 14, 15, 53, 54, 55, 56, 57, 58, 59, 60, 61, 62] (by decide +kernel) (by decide +kernel)
set_option maxRecDepth 20000 in
theorem gX9_circleThrough_X9_y : GoodIn wsX9_circleThrough (wsV RX9 71 RX9 yX9_y wsX9_y) := goodIn_app (goodIn_of _ (by decide +kernel)) ggX9_circleThrough_X9_y
set_option maxRecDepth 20000 in
theorem ggX9_circleThrough_X9_squareOf : GoodIn wsX9_circleThrough wsX9_squareOf := goodIn_r _ [52, 20, 21, 22, 5, 23, 24, 25, 26, 27, 28, 53, 54, 55, 56, 57, 58, 59, 60, 61, 62] (by decide +kernel) (by decide +kernel)
set_option maxRecDepth 20000 in
theorem gX9_circleThrough_X9_squareOf : GoodIn wsX9_circleThrough (wsV RX9 64 RX9 yX9_squareOf wsX9_squareOf) := goodIn_app (goodIn_of _ (by decide +kernel)) ggX9_circleThrough_X9_squareOf
set_option maxRecDepth 20000 in
theorem ggX9_circleThrough_X9_lay : GoodIn wsX9_circleThrough wsX9_lay := goodIn_r _ [44, 1, 20, 21, 22, 5, 23, 24, 25, 26, 27, 28, 53, 54, 55, 56, 57, 58, 59, 60, 61, 62] (by decide +kernel) (by decide +kernel)
set_option maxRecDepth 20000 in
theorem gX9_circleThrough_X9_lay : GoodIn wsX9_circleThrough (wsV RX9 61 RX9 yX9_lay wsX9_lay) := goodIn_app (goodIn_of _ (by decide +kernel)) ggX9_circleThrough_X9_lay
theorem dX9_circleThrough_0 : decode cX9_circleThrough 0 = .ok (.aload_n 0, 1) := by decide +kernel
theorem dX9_circleThrough_1 : decode cX9_circleThrough 1 = .ok (.iload_n 1, 1) := by decide +kernel
theorem dX9_circleThrough_2 : decode cX9_circleThrough 2 = .ok (.iload_n 2, 1) := by decide +kernel
theorem dX9_circleThrough_3 : decode cX9_circleThrough 3 = .ok (.iload_n 3, 1) := by decide +kernel
theorem dX9_circleThrough_4 : decode cX9_circleThrough 4 = .ok (.invokevirtual 84, 3) := by decide +kernel
theorem dX9_circleThrough_7 : decode cX9_circleThrough 7 = .ok (.ifCond .eq 5, 3) := by decide +kernel
theorem dX9_circleThrough_10 : decode cX9_circleThrough 10 = .ok (.iconst 0, 1) := by decide +kernel
theorem dX9_circleThrough_11 : decode cX9_circleThrough 11 = .ok (.ireturn, 1) := by decide +kernel
theorem dX9_circleThrough_12 : decode cX9_circleThrough 12 = .ok (.aload_n 0, 1) := by decide +kernel
theorem dX9_circleThrough_13 : decode cX9_circleThrough 13 = .ok (.iload_n 1, 1) := by decide +kernel
theorem dX9_circleThrough_14 : decode cX9_circleThrough 14 = .ok (.iload_n 2, 1) := by decide +kernel
theorem dX9_circleThrough_15 : decode cX9_circleThrough 15 = .ok (.invokevirtual 87, 3) := by decide +kernel
theorem dX9_circleThrough_18 : decode cX9_circleThrough 18 = .ok (.pop, 1) := by decide +kernel
theorem dX9_circleThrough_19 : decode cX9_circleThrough 19 = .ok (.aload_n 0, 1) := by decide +kernel
theorem dX9_circleThrough_20 : decode cX9_circleThrough 20 = .ok (.getfield 20, 3) := by decide +kernel
theorem dX9_circleThrough_23 : decode cX9_circleThrough 23 = .ok (.iconst 0, 1) := by decide +kernel
theorem dX9_circleThrough_24 : decode cX9_circleThrough 24 = .ok (.iaload, 1) := by decide +kernel
theorem dX9_circleThrough_25 : decode cX9_circleThrough 25 = .ok (.istore 4, 2) := by decide +kernel
theorem dX9_circleThrough_27 : decode cX9_circleThrough 27 = .ok (.aload_n 0, 1) := by decide +kernel
theorem dX9_circleThrough_28 : decode cX9_circleThrough 28 = .ok (.getfield 20, 3) := by decide +kernel
theorem dX9_circleThrough_31 : decode cX9_circleThrough 31 = .ok (.iconst 1, 1) := by decide +kernel
theorem dX9_circleThrough_32 : decode cX9_circleThrough 32 = .ok (.iaload, 1) := by decide +kernel
theorem dX9_circleThrough_33 : decode cX9_circleThrough 33 = .ok (.istore 5, 2) := by decide +kernel
theorem dX9_circleThrough_35 : decode cX9_circleThrough 35 = .ok (.aload_n 0, 1) := by decide +kernel
theorem dX9_circleThrough_36 : decode cX9_circleThrough 36 = .ok (.getfield 20, 3) := by decide +kernel
theorem dX9_circleThrough_39 : decode cX9_circleThrough 39 = .ok (.iconst 2, 1) := by decide +kernel
theorem dX9_circleThrough_40 : decode cX9_circleThrough 40 = .ok (.iaload, 1) := by decide +kernel
theorem dX9_circleThrough_41 : decode cX9_circleThrough 41 = .ok (.istore 6, 2) := by decide +kernel
theorem dX9_circleThrough_43 : decode cX9_circleThrough 43 = .ok (.aload_n 0, 1) := by decide +kernel
theorem dX9_circleThrough_44 : decode cX9_circleThrough 44 = .ok (.iload_n 1, 1) := by decide +kernel
theorem dX9_circleThrough_45 : decode cX9_circleThrough 45 = .ok (.iload_n 3, 1) := by decide +kernel
theorem dX9_circleThrough_46 : decode cX9_circleThrough 46 = .ok (.invokevirtual 87, 3) := by decide +kernel
theorem dX9_circleThrough_49 : decode cX9_circleThrough 49 = .ok (.pop, 1) := by decide +kernel
theorem dX9_circleThrough_50 : decode cX9_circleThrough 50 = .ok (.aload_n 0, 1) := by decide +kernel
theorem dX9_circleThrough_51 : decode cX9_circleThrough 51 = .ok (.iload 4, 2) := by decide +kernel
theorem dX9_circleThrough_53 : decode cX9_circleThrough 53 = .ok (.iload 5, 2) := by decide +kernel
theorem dX9_circleThrough_55 : decode cX9_circleThrough 55 = .ok (.iload 6, 2) := by decide +kernel
theorem dX9_circleThrough_57 : decode cX9_circleThrough 57 = .ok (.aload_n 0, 1) := by decide +kernel
theorem dX9_circleThrough_58 : decode cX9_circleThrough 58 = .ok (.getfield 20, 3) := by decide +kernel
theorem dX9_circleThrough_61 : decode cX9_circleThrough 61 = .ok (.iconst 0, 1) := by decide +kernel
theorem dX9_circleThrough_62 : decode cX9_circleThrough 62 = .ok (.iaload, 1) := by decide +kernel
theorem dX9_circleThrough_63 : decode cX9_circleThrough 63 = .ok (.aload_n 0, 1) := by decide +kernel
theorem dX9_circleThrough_64 : decode cX9_circleThrough 64 = .ok (.getfield 20, 3) := by decide +kernel
theorem dX9_circleThrough_67 : decode cX9_circleThrough 67 = .ok (.iconst 1, 1) := by decide +kernel
theorem dX9_circleThrough_68 : decode cX9_circleThrough 68 = .ok (.iaload, 1) := by decide +kernel
theorem dX9_circleThrough_69 : decode cX9_circleThrough 69 = .ok (.aload_n 0, 1) := by decide +kernel
theorem dX9_circleThrough_70 : decode cX9_circleThrough 70 = .ok (.getfield 20, 3) := by decide +kernel
theorem dX9_circleThrough_73 : decode cX9_circleThrough 73 = .ok (.iconst 2, 1) := by decide +kernel
theorem dX9_circleThrough_74 : decode cX9_circleThrough 74 = .ok (.iaload, 1) := by decide +kernel
theorem dX9_circleThrough_75 : decode cX9_circleThrough 75 = .ok (.invokevirtual 91, 3) := by decide +kernel
theorem dX9_circleThrough_78 : decode cX9_circleThrough 78 = .ok (.pop, 1) := by decide +kernel
theorem dX9_circleThrough_79 : decode cX9_circleThrough 79 = .ok (.aload_n 0, 1) := by decide +kernel
theorem dX9_circleThrough_80 : decode cX9_circleThrough 80 = .ok (.aload_n 0, 1) := by decide +kernel
theorem dX9_circleThrough_81 : decode cX9_circleThrough 81 = .ok (.getfield 20, 3) := by decide +kernel
theorem dX9_circleThrough_84 : decode cX9_circleThrough 84 = .ok (.iconst 0, 1) := by decide +kernel
theorem dX9_circleThrough_85 : decode cX9_circleThrough 85 = .ok (.iaload, 1) := by decide +kernel
theorem dX9_circleThrough_86 : decode cX9_circleThrough 86 = .ok (.aload_n 0, 1) := by decide +kernel
theorem dX9_circleThrough_87 : decode cX9_circleThrough 87 = .ok (.getfield 20, 3) := by decide +kernel
theorem dX9_circleThrough_90 : decode cX9_circleThrough 90 = .ok (.iconst 1, 1) := by decide +kernel
theorem dX9_circleThrough_91 : decode cX9_circleThrough 91 = .ok (.iaload, 1) := by decide +kernel
theorem dX9_circleThrough_92 : decode cX9_circleThrough 92 = .ok (.aload_n 0, 1) := by decide +kernel
theorem dX9_circleThrough_93 : decode cX9_circleThrough 93 = .ok (.aload_n 0, 1) := by decide +kernel
theorem dX9_circleThrough_94 : decode cX9_circleThrough 94 = .ok (.getfield 20, 3) := by decide +kernel
theorem dX9_circleThrough_97 : decode cX9_circleThrough 97 = .ok (.iconst 0, 1) := by decide +kernel
theorem dX9_circleThrough_98 : decode cX9_circleThrough 98 = .ok (.iaload, 1) := by decide +kernel
theorem dX9_circleThrough_99 : decode cX9_circleThrough 99 = .ok (.aload_n 0, 1) := by decide +kernel
theorem dX9_circleThrough_100 : decode cX9_circleThrough 100 = .ok (.getfield 20, 3) := by decide +kernel
theorem dX9_circleThrough_103 : decode cX9_circleThrough 103 = .ok (.iconst 1, 1) := by decide +kernel
theorem dX9_circleThrough_104 : decode cX9_circleThrough 104 = .ok (.iaload, 1) := by decide +kernel
theorem dX9_circleThrough_105 : decode cX9_circleThrough 105 = .ok (.aload_n 0, 1) := by decide +kernel
theorem dX9_circleThrough_106 : decode cX9_circleThrough 106 = .ok (.iload_n 1, 1) := by decide +kernel
theorem dX9_circleThrough_107 : decode cX9_circleThrough 107 = .ok (.invokevirtual 68, 3) := by decide +kernel
theorem dX9_circleThrough_110 : decode cX9_circleThrough 110 = .ok (.aload_n 0, 1) := by decide +kernel
theorem dX9_circleThrough_111 : decode cX9_circleThrough 111 = .ok (.iload_n 1, 1) := by decide +kernel
theorem dX9_circleThrough_112 : decode cX9_circleThrough 112 = .ok (.invokevirtual 71, 3) := by decide +kernel
theorem dX9_circleThrough_115 : decode cX9_circleThrough 115 = .ok (.invokevirtual 64, 3) := by decide +kernel
theorem dX9_circleThrough_118 : decode cX9_circleThrough 118 = .ok (.invokevirtual 61, 3) := by decide +kernel
theorem dX9_circleThrough_121 : decode cX9_circleThrough 121 = .ok (.ireturn, 1) := by decide +kernel
set_option maxRecDepth 20000 in
theorem ggX9_onLine_X9_x : GoodIn wsX9_onLine wsX9_x := goodIn_r _ [5, 6, 7, 8, 4, 9, 10, 37, 38, 39, 40, 41, 42, 43, 44, 45, 46] (by decide +kernel) (by decide +kernel)
set_option maxRecDepth 20000 in
theorem gX9_onLine_X9_x : GoodIn wsX9_onLine (wsV RX9 68 RX9 yX9_x wsX9_x) := goodIn_app (goodIn_of _ (by decide +kernel)) ggX9_onLine_X9_x
set_option maxRecDepth 20000 in
theorem ggX9_onLine_X9_y : GoodIn wsX9_onLine wsX9_y := goodIn_r _ [14, 6, 7, 8, 4, 9, 10, 37, 38, 39, 40, 41, 42, 43, 44, 45, 46] (by decide +kernel) (by decide +kernel)
set_option maxRecDepth 20000 in
theorem gX9_onLine_X9_y : GoodIn wsX9_onLine (wsV RX9 71 RX9 yX9_y wsX9_y) := goodIn_app (goodIn_of _ (by decide +kernel)) ggX9_onLine_X9_y
set_option maxRecDepth 20000 in
theorem ggX9_onLine_X9_z : GoodIn wsX9_onLine wsX9_z := goodIn_r _ [18, 6, 7, 8, 4, 9, 10, 37, 38, 39, 40, 41, 42, 43, 44, 45, 46] (by decide +kernel) (by decide +kernel)
set_option maxRecDepth 20000 in
theorem gX9_onLine_X9_z : GoodIn wsX9_onLine (wsV RX9 74 RX9 yX9_z wsX9_z) := goodIn_app (goodIn_of _ (by decide +kernel)) ggX9_onLine_X9_z
set_option maxRecDepth 20000 in
theorem ggX9_onLine_X9_lay : GoodIn wsX9_onLine wsX9_lay := goodIn_r _ [22, 23, 24, 25, 26, 4, 27, 28, 29, 30, 31, 32, 37, 38, 39, 40, 41, 42, 43, 44, 45, 46] (by decide +kernel) (by decide +kernel)
set_option maxRecDepth 20000 in
theorem gX9_onLine_X9_lay : GoodIn wsX9_onLine (wsV RX9 61 RX9 yX9_lay wsX9_lay) := goodIn_app (goodIn_of _ (by decide +kernel)) ggX9_onLine_X9_lay
set_option maxRecDepth 20000 in
theorem ggX9_onLine_X9_mod : GoodIn wsX9_onLine wsX9_mod := goodIn_r _ [27, 28, 29, 30, 31, 32, 37, 38, 39, 40, 41, 42, 43, 44, 45, 46] (by decide +kernel) (by decide +kernel)
set_option maxRecDepth 20000 in
theorem gX9_onLine_X9_mod : GoodIn wsX9_onLine (wsV RX9 48 RX9 yX9_mod wsX9_mod) := goodIn_app (goodIn_of _ (by decide +kernel)) ggX9_onLine_X9_mod
set_option maxRecDepth 20000 in
theorem ggX9_onLine_X9_opposite : GoodIn wsX9_onLine wsX9_opposite := goodIn_r _ [36, 28, 37, 38, 39, 40, 41, 42, 43, 44, 45, 46] (by decide +kernel) (by decide +kernel)
set_option maxRecDepth 20000 in
theorem gX9_onLine_X9_opposite : GoodIn wsX9_onLine (wsV RX9 58 RX9 yX9_opposite wsX9_opposite) := goodIn_app (goodIn_of _ (by decide +kernel)) ggX9_onLine_X9_opposite
theorem dX9_onLine_0 : decode cX9_onLine 0 = .ok (.aload_n 0, 1) := by decide +kernel
theorem dX9_onLine_1 : decode cX9_onLine 1 = .ok (.iload_n 1, 1) := by decide +kernel
theorem dX9_onLine_2 : decode cX9_onLine 2 = .ok (.invokevirtual 68, 3) := by decide +kernel
theorem dX9_onLine_5 : decode cX9_onLine 5 = .ok (.istore_n 3, 1) := by decide +kernel
theorem dX9_onLine_6 : decode cX9_onLine 6 = .ok (.aload_n 0, 1) := by decide +kernel
theorem dX9_onLine_7 : decode cX9_onLine 7 = .ok (.iload_n 1, 1) := by decide +kernel
theorem dX9_onLine_8 : decode cX9_onLine 8 = .ok (.invokevirtual 71, 3) := by decide +kernel
theorem dX9_onLine_11 : decode cX9_onLine 11 = .ok (.istore 4, 2) := by decide +kernel
theorem dX9_onLine_13 : decode cX9_onLine 13 = .ok (.iload 4, 2) := by decide +kernel
theorem dX9_onLine_15 : decode cX9_onLine 15 = .ok (.ifCond .ne 18, 3) := by decide +kernel
theorem dX9_onLine_18 : decode cX9_onLine 18 = .ok (.aload_n 0, 1) := by decide +kernel
theorem dX9_onLine_19 : decode cX9_onLine 19 = .ok (.aload_n 0, 1) := by decide +kernel
theorem dX9_onLine_20 : decode cX9_onLine 20 = .ok (.iload_n 1, 1) := by decide +kernel
theorem dX9_onLine_21 : decode cX9_onLine 21 = .ok (.invokevirtual 74, 3) := by decide +kernel
theorem dX9_onLine_24 : decode cX9_onLine 24 = .ok (.ineg, 1) := by decide +kernel
theorem dX9_onLine_25 : decode cX9_onLine 25 = .ok (.iload_n 2, 1) := by decide +kernel
theorem dX9_onLine_26 : decode cX9_onLine 26 = .ok (.iconst 0, 1) := by decide +kernel
theorem dX9_onLine_27 : decode cX9_onLine 27 = .ok (.invokevirtual 61, 3) := by decide +kernel
theorem dX9_onLine_30 : decode cX9_onLine 30 = .ok (.goto 30, 3) := by decide +kernel
theorem dX9_onLine_33 : decode cX9_onLine 33 = .ok (.aload_n 0, 1) := by decide +kernel
theorem dX9_onLine_34 : decode cX9_onLine 34 = .ok (.iload_n 2, 1) := by decide +kernel
theorem dX9_onLine_35 : decode cX9_onLine 35 = .ok (.aload_n 0, 1) := by decide +kernel
theorem dX9_onLine_36 : decode cX9_onLine 36 = .ok (.iload_n 3, 1) := by decide +kernel
theorem dX9_onLine_37 : decode cX9_onLine 37 = .ok (.iload_n 2, 1) := by decide +kernel
theorem dX9_onLine_38 : decode cX9_onLine 38 = .ok (.imul, 1) := by decide +kernel
theorem dX9_onLine_39 : decode cX9_onLine 39 = .ok (.aload_n 0, 1) := by decide +kernel
theorem dX9_onLine_40 : decode cX9_onLine 40 = .ok (.iload_n 1, 1) := by decide +kernel
theorem dX9_onLine_41 : decode cX9_onLine 41 = .ok (.invokevirtual 74, 3) := by decide +kernel
theorem dX9_onLine_44 : decode cX9_onLine 44 = .ok (.iadd, 1) := by decide +kernel
theorem dX9_onLine_45 : decode cX9_onLine 45 = .ok (.ineg, 1) := by decide +kernel
theorem dX9_onLine_46 : decode cX9_onLine 46 = .ok (.invokevirtual 48, 3) := by decide +kernel
theorem dX9_onLine_49 : decode cX9_onLine 49 = .ok (.aload_n 0, 1) := by decide +kernel
theorem dX9_onLine_50 : decode cX9_onLine 50 = .ok (.iload 4, 2) := by decide +kernel
theorem dX9_onLine_52 : decode cX9_onLine 52 = .ok (.invokevirtual 58, 3) := by decide +kernel
theorem dX9_onLine_55 : decode cX9_onLine 55 = .ok (.imul, 1) := by decide +kernel
theorem dX9_onLine_56 : decode cX9_onLine 56 = .ok (.iconst 0, 1) := by decide +kernel
theorem dX9_onLine_57 : decode cX9_onLine 57 = .ok (.invokevirtual 61, 3) := by decide +kernel
theorem dX9_onLine_60 : decode cX9_onLine 60 = .ok (.ireturn, 1) := by decide +kernel
set_option maxRecDepth 20000 in
theorem ggX9_find_X9_get : GoodIn wsX9_find wsX9_get := goodIn_r _ [5, 6, 81, 82, 83, 84, 85, 86, 87, 88, 89, 90] (by decide +kernel) (by decide +kernel)
set_option maxRecDepth 20000 in
theorem gX9_find_X9_get : GoodIn wsX9_find (wsV RX9 39 RX9 yX9_get wsX9_get) := goodIn_app (goodIn_of _ (by decide +kernel)) ggX9_find_X9_get
set_option maxRecDepth 20000 in
theorem ggX9_find_X9_lay : GoodIn wsX9_find wsX9_lay := goodIn_r _ [10, 11, 12, 13, 14, 4, 15, 16, 17, 18, 19, 20, 81, 82, 83, 84, 85, 86, 87, 88, 89, 90] (by decide +kernel) (by decide +kernel)
set_option maxRecDepth 20000 in
theorem gX9_find_X9_lay : GoodIn wsX9_find (wsV RX9 61 RX9 yX9_lay wsX9_lay) := goodIn_app (goodIn_of _ (by decide +kernel)) ggX9_find_X9_lay
set_option maxRecDepth 20000 in
theorem ggX9_find_X9_onLine : GoodIn wsX9_find wsX9_onLine := goodIn_r _ [24, 25, 26, 27, 4, 28, 1, 2, 3, 5, 6, 29, 30, 31, 32, 33, 34, 35, 36, 7, 8, 9, 10, 11, 12, 13, 14, 15, 16, 17, 18, 19, 20, 37, 38, 39, 40, 81, 82, 83, 84, 85, 86, 87, 88, 89, 90] (by decide +kernel) (by decide +kernel)
set_option maxRecDepth 20000 in
theorem gX9_find_X9_onLine : GoodIn wsX9_find (wsV RX9 95 RX9 yX9_onLine wsX9_onLine) := goodIn_app (goodIn_of _ (by decide +kernel)) ggX9_find_X9_onLine
set_option maxRecDepth 20000 in
theorem ggX9_find_X9_x : GoodIn wsX9_find wsX9_x := goodIn_r _ [28, 1, 2, 3, 4, 5, 6, 81, 82, 83, 84, 85, 86, 87, 88, 89, 90] (by decide +kernel) (by decide +kernel)
set_option maxRecDepth 20000 in
theorem gX9_find_X9_x : GoodIn wsX9_find (wsV RX9 68 RX9 yX9_x wsX9_x) := goodIn_app (goodIn_of _ (by decide +kernel)) ggX9_find_X9_x
set_option maxRecDepth 20000 in
theorem ggX9_find_X9_y : GoodIn wsX9_find wsX9_y := goodIn_r _ [32, 1, 2, 3, 4, 5, 6, 81, 82, 83, 84, 85, 86, 87, 88, 89, 90] (by decide +kernel) (by decide +kernel)
set_option maxRecDepth 20000 in
theorem gX9_find_X9_y : GoodIn wsX9_find (wsV RX9 71 RX9 yX9_y wsX9_y) := goodIn_app (goodIn_of _ (by decide +kernel)) ggX9_find_X9_y
set_option maxRecDepth 20000 in
theorem ggX9_find_X9_z : GoodIn wsX9_find wsX9_z := goodIn_r _ [36, 1, 2, 3, 4, 5, 6, 81, 82, 83, 84, 85, 86, 87, 88, 89, 90] (by decide +kernel) (by decide +kernel)
set_option maxRecDepth 20000 in
theorem gX9_find_X9_z : GoodIn wsX9_find (wsV RX9 74 RX9 yX9_z wsX9_z) := goodIn_app (goodIn_of _ (by decide +kernel)) ggX9_find_X9_z
set_option maxRecDepth 20000 in
theorem ggX9_find_X9_intersect : GoodIn wsX9_find wsX9_intersect := goodIn_r _ [44, 12, 13, 14, 4, 15, 16, 17, 18, 19, 20, 37, 38, 39, 40, 7, 8, 9, 10, 11, 81, 82, 83, 84, 85, 86, 87, 88, 89, 90] (by decide +kernel) (by decide +kernel)
set_option maxRecDepth 20000 in
theorem gX9_find_X9_intersect : GoodIn wsX9_find (wsV RX9 91 RX9 yX9_intersect wsX9_intersect) := goodIn_app (goodIn_of _ (by decide +kernel)) ggX9_find_X9_intersect
set_option maxRecDepth 20000 in
theorem ggX9_find_X9_common : GoodIn wsX9_find wsX9_common := goodIn_r _ [48, 16, 37, 38, 39, 4, 40, 12, 13, 14, 15, 17, 18, 19, 20, 49, 50, 51, 52, 7, 8, 9, 10, 11, 81, 82, 83, 84, 85, 86, 87, 88, 89, 90] (by decide +kernel) (by decide +kernel)
set_option maxRecDepth 20000 in
theorem gX9_find_X9_common : GoodIn wsX9_find (wsV RX9 80 RX9 yX9_common wsX9_common) := goodIn_app (goodIn_of _ (by decide +kernel)) ggX9_find_X9_common
set_option maxRecDepth 20000 in
theorem ggX9_find_X9_commonOfCircles : GoodIn wsX9_find wsX9_commonOfCircles := goodIn_r _ [56, 11, 25, 26, 27, 4, 28, 1, 2, 3, 5, 6, 29, 30, 31, 32, 33, 34, 35, 36, 57, 58, 59, 60, 12, 13, 14, 15, 16, 17, 18, 19, 20, 37, 38, 39, 40, 7, 8, 9, 10, 45, 46, 47, 48, 49, 50, 51, 52, 81, 82, 83, 84, 85, 86, 87, 88, 89, 90] (by decide +kernel) (by decide +kernel)
set_option maxRecDepth 20000 in
theorem gX9_find_X9_commonOfCircles : GoodIn wsX9_find (wsV RX9 98 RX9 yX9_commonOfCircles wsX9_commonOfCircles) := goodIn_app (goodIn_of _ (by decide +kernel)) ggX9_find_X9_commonOfCircles
set_option maxRecDepth 20000 in
theorem ggX9_find_X9_opposite : GoodIn wsX9_find wsX9_opposite := goodIn_r _ [40, 16, 81, 82, 83, 84, 85, 86, 87, 88, 89, 90] (by decide +kernel) (by decide +kernel)
set_option maxRecDepth 20000 in
theorem gX9_find_X9_opposite : GoodIn wsX9_find (wsV RX9 58 RX9 yX9_opposite wsX9_opposite) := goodIn_app (goodIn_of _ (by decide +kernel)) ggX9_find_X9_opposite
set_option maxRecDepth 20000 in
theorem ggX9_find_X9_mirror : GoodIn wsX9_find wsX9_mirror := goodIn_r _ [64, 16, 25, 26, 27, 4, 28, 1, 2, 3, 5, 6, 29, 30, 31, 32, 33, 34, 35, 36, 12, 13, 14, 15, 17, 18, 19, 20, 37, 38, 39, 40, 7, 8, 9, 10, 11, 81, 82, 83, 84, 85, 86, 87, 88, 89, 90] (by decide +kernel) (by decide +kernel)
set_option maxRecDepth 20000 in
theorem gX9_find_X9_mirror : GoodIn wsX9_find (wsV RX9 102 RX9 yX9_mirror wsX9_mirror) := goodIn_app (goodIn_of _ (by decide +kernel)) ggX9_find_X9_mirror
set_option maxRecDepth 20000 in
theorem ggX9_find_X9_layLine : GoodIn wsX9_find wsX9_layLine := goodIn_r _ [60, 12, 13, 14, 4, 15, 16, 17, 18, 19, 20, 37, 38, 39, 40, 7, 8, 9, 10, 11, 81, 82, 83, 84, 85, 86, 87, 88, 89, 90] (by decide +kernel) (by decide +kernel)
set_option maxRecDepth 20000 in
theorem gX9_find_X9_layLine : GoodIn wsX9_find (wsV RX9 77 RX9 yX9_layLine wsX9_layLine) := goodIn_app (goodIn_of _ (by decide +kernel)) ggX9_find_X9_layLine
set_option maxRecDepth 20000 in
theorem ggX9_find_X9_bisector : GoodIn wsX9_find wsX9_bisector := goodIn_r _ [68, 25, 26, 27, 4, 28, 1, 2, 3, 5, 6, 29, 30, 31, 32, 57, 58, 59, 60, 12, 13, 14, 15, 16, 17, 18, 19, 20, 37, 38, 39, 40, 7, 8, 9, 10, 11, 81, 82, 83, 84, 85, 86, 87, 88, 89, 90] (by decide +kernel) (by decide +kernel)
set_option maxRecDepth 20000 in
theorem gX9_find_X9_bisector : GoodIn wsX9_find (wsV RX9 87 RX9 yX9_bisector wsX9_bisector) := goodIn_app (goodIn_of _ (by decide +kernel)) ggX9_find_X9_bisector
set_option maxRecDepth 20000 in
theorem ggX9_find_X9_layCircle : GoodIn wsX9_find wsX9_layCircle := goodIn_r _ [72, 25, 26, 27, 4, 28, 1, 2, 3, 5, 6, 29, 30, 31, 32, 49, 50, 51, 52, 12, 13, 14, 15, 16, 17, 18, 19, 20, 7, 8, 9, 10, 11, 81, 82, 83, 84, 85, 86, 87, 88, 89, 90] (by decide +kernel) (by decide +kernel)
set_option maxRecDepth 20000 in
theorem gX9_find_X9_layCircle : GoodIn wsX9_find (wsV RX9 105 RX9 yX9_layCircle wsX9_layCircle) := goodIn_app (goodIn_of _ (by decide +kernel)) ggX9_find_X9_layCircle
set_option maxRecDepth 20000 in
theorem ggX9_find_X9_circleThrough : GoodIn wsX9_find wsX9_circleThrough := goodIn_r _ [76, 11, 77, 78, 79, 4, 80, 25, 26, 27, 28, 1, 2, 3, 5, 6, 29, 30, 31, 32, 12, 13, 14, 15, 16, 17, 18, 19, 20, 65, 66, 67, 68, 57, 58, 59, 60, 37, 38, 39, 40, 7, 8, 9, 10, 41, 42, 43, 44, 49, 50, 51, 52, 81, 82, 83, 84, 85, 86, 87, 88, 89, 90] (by decide +kernel) (by decide +kernel)
set_option maxRecDepth 20000 in
theorem gX9_find_X9_circleThrough : GoodIn wsX9_find (wsV RX9 108 RX9 yX9_circleThrough wsX9_circleThrough) := goodIn_app (goodIn_of _ (by decide +kernel)) ggX9_find_X9_circleThrough
theorem dX9_find_0 : decode cX9_find 0 = .ok (.aload_n 0, 1) := by decide +kernel
theorem dX9_find_1 : decode cX9_find 1 = .ok (.iload_n 1, 1) := by decide +kernel
theorem dX9_find_2 : decode cX9_find 2 = .ok (.iconst 2, 1) := by decide +kernel
theorem dX9_find_3 : decode cX9_find 3 = .ok (.invokevirtual 39, 3) := by decide +kernel
theorem dX9_find_6 : decode cX9_find 6 = .ok (.istore_n 2, 1) := by decide +kernel
theorem dX9_find_7 : decode cX9_find 7 = .ok (.aload_n 0, 1) := by decide +kernel
theorem dX9_find_8 : decode cX9_find 8 = .ok (.iload_n 1, 1) := by decide +kernel
theorem dX9_find_9 : decode cX9_find 9 = .ok (.iconst 3, 1) := by decide +kernel
theorem dX9_find_10 : decode cX9_find 10 = .ok (.invokevirtual 39, 3) := by decide +kernel
theorem dX9_find_13 : decode cX9_find 13 = .ok (.istore_n 3, 1) := by decide +kernel
theorem dX9_find_14 : decode cX9_find 14 = .ok (.aload_n 0, 1) := by decide +kernel
theorem dX9_find_15 : decode cX9_find 15 = .ok (.iload_n 1, 1) := by decide +kernel
theorem dX9_find_16 : decode cX9_find 16 = .ok (.iconst 4, 1) := by decide +kernel
theorem dX9_find_17 : decode cX9_find 17 = .ok (.invokevirtual 39, 3) := by decide +kernel
theorem dX9_find_20 : decode cX9_find 20 = .ok (.istore 4, 2) := by decide +kernel
theorem dX9_find_22 : decode cX9_find 22 = .ok (.aload_n 0, 1) := by decide +kernel
theorem dX9_find_23 : decode cX9_find 23 = .ok (.iload_n 1, 1) := by decide +kernel
theorem dX9_find_24 : decode cX9_find 24 = .ok (.iconst 1, 1) := by decide +kernel
theorem dX9_find_25 : decode cX9_find 25 = .ok (.invokevirtual 39, 3) := by decide +kernel
theorem dX9_find_28 : decode cX9_find 28 = .ok (.tableswitch 442 0 21 #[104, 123, 135, 170, 170, 220, 220, 243, 283, 442, 290, 340, 379, 418, 442, 442, 442, 442, 442, 442, 425, 433], 104) := by decide +kernel
theorem dX9_find_132 : decode cX9_find 132 = .ok (.aload_n 0, 1) := by decide +kernel
theorem dX9_find_133 : decode cX9_find 133 = .ok (.aload_n 0, 1) := by decide +kernel
theorem dX9_find_134 : decode cX9_find 134 = .ok (.iload_n 1, 1) := by decide +kernel
theorem dX9_find_135 : decode cX9_find 135 = .ok (.iconst 5, 1) := by decide +kernel
theorem dX9_find_136 : decode cX9_find 136 = .ok (.invokevirtual 39, 3) := by decide +kernel
theorem dX9_find_139 : decode cX9_find 139 = .ok (.aload_n 0, 1) := by decide +kernel
theorem dX9_find_140 : decode cX9_find 140 = .ok (.iload_n 1, 1) := by decide +kernel
theorem dX9_find_141 : decode cX9_find 141 = .ok (.bipush 6, 2) := by decide +kernel
theorem dX9_find_143 : decode cX9_find 143 = .ok (.invokevirtual 39, 3) := by decide +kernel
theorem dX9_find_146 : decode cX9_find 146 = .ok (.iconst 0, 1) := by decide +kernel
theorem dX9_find_147 : decode cX9_find 147 = .ok (.invokevirtual 61, 3) := by decide +kernel
theorem dX9_find_150 : decode cX9_find 150 = .ok (.ireturn, 1) := by decide +kernel
theorem dX9_find_151 : decode cX9_find 151 = .ok (.aload_n 0, 1) := by decide +kernel
theorem dX9_find_152 : decode cX9_find 152 = .ok (.iload_n 2, 1) := by decide +kernel
theorem dX9_find_153 : decode cX9_find 153 = .ok (.aload_n 0, 1) := by decide +kernel
theorem dX9_find_154 : decode cX9_find 154 = .ok (.iload_n 1, 1) := by decide +kernel
theorem dX9_find_155 : decode cX9_find 155 = .ok (.iconst 5, 1) := by decide +kernel
theorem dX9_find_156 : decode cX9_find 156 = .ok (.invokevirtual 39, 3) := by decide +kernel
theorem dX9_find_159 : decode cX9_find 159 = .ok (.invokevirtual 95, 3) := by decide +kernel
theorem dX9_find_162 : decode cX9_find 162 = .ok (.ireturn, 1) := by decide +kernel
theorem dX9_find_163 : decode cX9_find 163 = .ok (.aload_n 0, 1) := by decide +kernel
theorem dX9_find_164 : decode cX9_find 164 = .ok (.aload_n 0, 1) := by decide +kernel
theorem dX9_find_165 : decode cX9_find 165 = .ok (.iload_n 2, 1) := by decide +kernel
theorem dX9_find_166 : decode cX9_find 166 = .ok (.invokevirtual 68, 3) := by decide +kernel
theorem dX9_find_169 : decode cX9_find 169 = .ok (.aload_n 0, 1) := by decide +kernel
theorem dX9_find_170 : decode cX9_find 170 = .ok (.iload_n 2, 1) := by decide +kernel
theorem dX9_find_171 : decode cX9_find 171 = .ok (.invokevirtual 71, 3) := by decide +kernel
theorem dX9_find_174 : decode cX9_find 174 = .ok (.aload_n 0, 1) := by decide +kernel
theorem dX9_find_175 : decode cX9_find 175 = .ok (.iload_n 2, 1) := by decide +kernel
theorem dX9_find_176 : decode cX9_find 176 = .ok (.invokevirtual 74, 3) := by decide +kernel
theorem dX9_find_179 : decode cX9_find 179 = .ok (.aload_n 0, 1) := by decide +kernel
theorem dX9_find_180 : decode cX9_find 180 = .ok (.iload_n 3, 1) := by decide +kernel
theorem dX9_find_181 : decode cX9_find 181 = .ok (.invokevirtual 68, 3) := by decide +kernel
theorem dX9_find_184 : decode cX9_find 184 = .ok (.aload_n 0, 1) := by decide +kernel
theorem dX9_find_185 : decode cX9_find 185 = .ok (.iload_n 3, 1) := by decide +kernel
theorem dX9_find_186 : decode cX9_find 186 = .ok (.invokevirtual 71, 3) := by decide +kernel
theorem dX9_find_189 : decode cX9_find 189 = .ok (.aload_n 0, 1) := by decide +kernel
theorem dX9_find_190 : decode cX9_find 190 = .ok (.iload_n 3, 1) := by decide +kernel
theorem dX9_find_191 : decode cX9_find 191 = .ok (.invokevirtual 74, 3) := by decide +kernel
theorem dX9_find_194 : decode cX9_find 194 = .ok (.invokevirtual 91, 3) := by decide +kernel
theorem dX9_find_197 : decode cX9_find 197 = .ok (.ireturn, 1) := by decide +kernel
theorem dX9_find_198 : decode cX9_find 198 = .ok (.aload_n 0, 1) := by decide +kernel
theorem dX9_find_199 : decode cX9_find 199 = .ok (.aload_n 0, 1) := by decide +kernel
theorem dX9_find_200 : decode cX9_find 200 = .ok (.iload_n 2, 1) := by decide +kernel
theorem dX9_find_201 : decode cX9_find 201 = .ok (.invokevirtual 68, 3) := by decide +kernel
theorem dX9_find_204 : decode cX9_find 204 = .ok (.aload_n 0, 1) := by decide +kernel
theorem dX9_find_205 : decode cX9_find 205 = .ok (.iload_n 2, 1) := by decide +kernel
theorem dX9_find_206 : decode cX9_find 206 = .ok (.invokevirtual 71, 3) := by decide +kernel
theorem dX9_find_209 : decode cX9_find 209 = .ok (.aload_n 0, 1) := by decide +kernel
theorem dX9_find_210 : decode cX9_find 210 = .ok (.iload_n 2, 1) := by decide +kernel
theorem dX9_find_211 : decode cX9_find 211 = .ok (.invokevirtual 74, 3) := by decide +kernel
theorem dX9_find_214 : decode cX9_find 214 = .ok (.aload_n 0, 1) := by decide +kernel
theorem dX9_find_215 : decode cX9_find 215 = .ok (.iload_n 3, 1) := by decide +kernel
theorem dX9_find_216 : decode cX9_find 216 = .ok (.invokevirtual 68, 3) := by decide +kernel
theorem dX9_find_219 : decode cX9_find 219 = .ok (.aload_n 0, 1) := by decide +kernel
theorem dX9_find_220 : decode cX9_find 220 = .ok (.iload_n 3, 1) := by decide +kernel
theorem dX9_find_221 : decode cX9_find 221 = .ok (.invokevirtual 71, 3) := by decide +kernel
theorem dX9_find_224 : decode cX9_find 224 = .ok (.aload_n 0, 1) := by decide +kernel
theorem dX9_find_225 : decode cX9_find 225 = .ok (.iload_n 3, 1) := by decide +kernel
theorem dX9_find_226 : decode cX9_find 226 = .ok (.invokevirtual 74, 3) := by decide +kernel
theorem dX9_find_229 : decode cX9_find 229 = .ok (.aload_n 0, 1) := by decide +kernel
theorem dX9_find_230 : decode cX9_find 230 = .ok (.iload_n 1, 1) := by decide +kernel
theorem dX9_find_231 : decode cX9_find 231 = .ok (.iconst 1, 1) := by decide +kernel
theorem dX9_find_232 : decode cX9_find 232 = .ok (.invokevirtual 39, 3) := by decide +kernel
theorem dX9_find_235 : decode cX9_find 235 = .ok (.iconst 4, 1) := by decide +kernel
theorem dX9_find_236 : decode cX9_find 236 = .ok (.if_icmp .ne 7, 3) := by decide +kernel
theorem dX9_find_239 : decode cX9_find 239 = .ok (.iconst 1, 1) := by decide +kernel
theorem dX9_find_240 : decode cX9_find 240 = .ok (.goto 4, 3) := by decide +kernel
theorem dX9_find_243 : decode cX9_find 243 = .ok (.iconst 0, 1) := by decide +kernel
theorem dX9_find_244 : decode cX9_find 244 = .ok (.invokevirtual 80, 3) := by decide +kernel
theorem dX9_find_247 : decode cX9_find 247 = .ok (.ireturn, 1) := by decide +kernel
theorem dX9_find_248 : decode cX9_find 248 = .ok (.aload_n 0, 1) := by decide +kernel
theorem dX9_find_249 : decode cX9_find 249 = .ok (.iload_n 2, 1) := by decide +kernel
theorem dX9_find_250 : decode cX9_find 250 = .ok (.iload_n 3, 1) := by decide +kernel
theorem dX9_find_251 : decode cX9_find 251 = .ok (.aload_n 0, 1) := by decide +kernel
theorem dX9_find_252 : decode cX9_find 252 = .ok (.iload_n 1, 1) := by decide +kernel
theorem dX9_find_253 : decode cX9_find 253 = .ok (.iconst 1, 1) := by decide +kernel
theorem dX9_find_254 : decode cX9_find 254 = .ok (.invokevirtual 39, 3) := by decide +kernel
theorem dX9_find_257 : decode cX9_find 257 = .ok (.bipush 6, 2) := by decide +kernel
theorem dX9_find_259 : decode cX9_find 259 = .ok (.if_icmp .ne 7, 3) := by decide +kernel
theorem dX9_find_262 : decode cX9_find 262 = .ok (.iconst 1, 1) := by decide +kernel
theorem dX9_find_263 : decode cX9_find 263 = .ok (.goto 4, 3) := by decide +kernel
theorem dX9_find_266 : decode cX9_find 266 = .ok (.iconst 0, 1) := by decide +kernel
theorem dX9_find_267 : decode cX9_find 267 = .ok (.invokevirtual 98, 3) := by decide +kernel
theorem dX9_find_270 : decode cX9_find 270 = .ok (.ireturn, 1) := by decide +kernel
theorem dX9_find_271 : decode cX9_find 271 = .ok (.aload_n 0, 1) := by decide +kernel
theorem dX9_find_272 : decode cX9_find 272 = .ok (.aload_n 0, 1) := by decide +kernel
theorem dX9_find_273 : decode cX9_find 273 = .ok (.iload_n 2, 1) := by decide +kernel
theorem dX9_find_274 : decode cX9_find 274 = .ok (.invokevirtual 68, 3) := by decide +kernel
theorem dX9_find_277 : decode cX9_find 277 = .ok (.aload_n 0, 1) := by decide +kernel
theorem dX9_find_278 : decode cX9_find 278 = .ok (.iload_n 3, 1) := by decide +kernel
theorem dX9_find_279 : decode cX9_find 279 = .ok (.invokevirtual 68, 3) := by decide +kernel
theorem dX9_find_282 : decode cX9_find 282 = .ok (.iadd, 1) := by decide +kernel
theorem dX9_find_283 : decode cX9_find 283 = .ok (.aload_n 0, 1) := by decide +kernel
theorem dX9_find_284 : decode cX9_find 284 = .ok (.iconst 2, 1) := by decide +kernel
theorem dX9_find_285 : decode cX9_find 285 = .ok (.invokevirtual 58, 3) := by decide +kernel
theorem dX9_find_288 : decode cX9_find 288 = .ok (.imul, 1) := by decide +kernel
theorem dX9_find_289 : decode cX9_find 289 = .ok (.aload_n 0, 1) := by decide +kernel
theorem dX9_find_290 : decode cX9_find 290 = .ok (.iload_n 2, 1) := by decide +kernel
theorem dX9_find_291 : decode cX9_find 291 = .ok (.invokevirtual 71, 3) := by decide +kernel
theorem dX9_find_294 : decode cX9_find 294 = .ok (.aload_n 0, 1) := by decide +kernel
theorem dX9_find_295 : decode cX9_find 295 = .ok (.iload_n 3, 1) := by decide +kernel
theorem dX9_find_296 : decode cX9_find 296 = .ok (.invokevirtual 71, 3) := by decide +kernel
theorem dX9_find_299 : decode cX9_find 299 = .ok (.iadd, 1) := by decide +kernel
theorem dX9_find_300 : decode cX9_find 300 = .ok (.aload_n 0, 1) := by decide +kernel
theorem dX9_find_301 : decode cX9_find 301 = .ok (.iconst 2, 1) := by decide +kernel
theorem dX9_find_302 : decode cX9_find 302 = .ok (.invokevirtual 58, 3) := by decide +kernel
theorem dX9_find_305 : decode cX9_find 305 = .ok (.imul, 1) := by decide +kernel
theorem dX9_find_306 : decode cX9_find 306 = .ok (.iconst 0, 1) := by decide +kernel
theorem dX9_find_307 : decode cX9_find 307 = .ok (.invokevirtual 61, 3) := by decide +kernel
theorem dX9_find_310 : decode cX9_find 310 = .ok (.ireturn, 1) := by decide +kernel
theorem dX9_find_311 : decode cX9_find 311 = .ok (.aload_n 0, 1) := by decide +kernel
theorem dX9_find_312 : decode cX9_find 312 = .ok (.iload_n 2, 1) := by decide +kernel
theorem dX9_find_313 : decode cX9_find 313 = .ok (.iload_n 3, 1) := by decide +kernel
theorem dX9_find_314 : decode cX9_find 314 = .ok (.invokevirtual 102, 3) := by decide +kernel
theorem dX9_find_317 : decode cX9_find 317 = .ok (.ireturn, 1) := by decide +kernel
theorem dX9_find_318 : decode cX9_find 318 = .ok (.aload_n 0, 1) := by decide +kernel
theorem dX9_find_319 : decode cX9_find 319 = .ok (.aload_n 0, 1) := by decide +kernel
theorem dX9_find_320 : decode cX9_find 320 = .ok (.iload_n 2, 1) := by decide +kernel
theorem dX9_find_321 : decode cX9_find 321 = .ok (.invokevirtual 71, 3) := by decide +kernel
theorem dX9_find_324 : decode cX9_find 324 = .ok (.aload_n 0, 1) := by decide +kernel
theorem dX9_find_325 : decode cX9_find 325 = .ok (.iload_n 3, 1) := by decide +kernel
theorem dX9_find_326 : decode cX9_find 326 = .ok (.invokevirtual 71, 3) := by decide +kernel
theorem dX9_find_329 : decode cX9_find 329 = .ok (.isub, 1) := by decide +kernel
theorem dX9_find_330 : decode cX9_find 330 = .ok (.aload_n 0, 1) := by decide +kernel
theorem dX9_find_331 : decode cX9_find 331 = .ok (.iload_n 3, 1) := by decide +kernel
theorem dX9_find_332 : decode cX9_find 332 = .ok (.invokevirtual 68, 3) := by decide +kernel
theorem dX9_find_335 : decode cX9_find 335 = .ok (.aload_n 0, 1) := by decide +kernel
theorem dX9_find_336 : decode cX9_find 336 = .ok (.iload_n 2, 1) := by decide +kernel
theorem dX9_find_337 : decode cX9_find 337 = .ok (.invokevirtual 68, 3) := by decide +kernel
theorem dX9_find_340 : decode cX9_find 340 = .ok (.isub, 1) := by decide +kernel
theorem dX9_find_341 : decode cX9_find 341 = .ok (.aload_n 0, 1) := by decide +kernel
theorem dX9_find_342 : decode cX9_find 342 = .ok (.iload_n 2, 1) := by decide +kernel
theorem dX9_find_343 : decode cX9_find 343 = .ok (.invokevirtual 68, 3) := by decide +kernel
theorem dX9_find_346 : decode cX9_find 346 = .ok (.aload_n 0, 1) := by decide +kernel
theorem dX9_find_347 : decode cX9_find 347 = .ok (.iload_n 3, 1) := by decide +kernel
theorem dX9_find_348 : decode cX9_find 348 = .ok (.invokevirtual 71, 3) := by decide +kernel
theorem dX9_find_351 : decode cX9_find 351 = .ok (.imul, 1) := by decide +kernel
theorem dX9_find_352 : decode cX9_find 352 = .ok (.aload_n 0, 1) := by decide +kernel
theorem dX9_find_353 : decode cX9_find 353 = .ok (.iload_n 3, 1) := by decide +kernel
theorem dX9_find_354 : decode cX9_find 354 = .ok (.invokevirtual 68, 3) := by decide +kernel
theorem dX9_find_357 : decode cX9_find 357 = .ok (.aload_n 0, 1) := by decide +kernel
theorem dX9_find_358 : decode cX9_find 358 = .ok (.iload_n 2, 1) := by decide +kernel
theorem dX9_find_359 : decode cX9_find 359 = .ok (.invokevirtual 71, 3) := by decide +kernel
theorem dX9_find_362 : decode cX9_find 362 = .ok (.imul, 1) := by decide +kernel
theorem dX9_find_363 : decode cX9_find 363 = .ok (.isub, 1) := by decide +kernel
theorem dX9_find_364 : decode cX9_find 364 = .ok (.invokevirtual 77, 3) := by decide +kernel
theorem dX9_find_367 : decode cX9_find 367 = .ok (.ireturn, 1) := by decide +kernel
theorem dX9_find_368 : decode cX9_find 368 = .ok (.aload_n 0, 1) := by decide +kernel
theorem dX9_find_369 : decode cX9_find 369 = .ok (.aload_n 0, 1) := by decide +kernel
theorem dX9_find_370 : decode cX9_find 370 = .ok (.iload_n 3, 1) := by decide +kernel
theorem dX9_find_371 : decode cX9_find 371 = .ok (.invokevirtual 68, 3) := by decide +kernel
theorem dX9_find_374 : decode cX9_find 374 = .ok (.aload_n 0, 1) := by decide +kernel
theorem dX9_find_375 : decode cX9_find 375 = .ok (.iload_n 3, 1) := by decide +kernel
theorem dX9_find_376 : decode cX9_find 376 = .ok (.invokevirtual 71, 3) := by decide +kernel
theorem dX9_find_379 : decode cX9_find 379 = .ok (.aload_n 0, 1) := by decide +kernel
theorem dX9_find_380 : decode cX9_find 380 = .ok (.iload_n 3, 1) := by decide +kernel
theorem dX9_find_381 : decode cX9_find 381 = .ok (.invokevirtual 68, 3) := by decide +kernel
theorem dX9_find_384 : decode cX9_find 384 = .ok (.aload_n 0, 1) := by decide +kernel
theorem dX9_find_385 : decode cX9_find 385 = .ok (.iload_n 2, 1) := by decide +kernel
theorem dX9_find_386 : decode cX9_find 386 = .ok (.invokevirtual 68, 3) := by decide +kernel
theorem dX9_find_389 : decode cX9_find 389 = .ok (.imul, 1) := by decide +kernel
theorem dX9_find_390 : decode cX9_find 390 = .ok (.aload_n 0, 1) := by decide +kernel
theorem dX9_find_391 : decode cX9_find 391 = .ok (.iload_n 3, 1) := by decide +kernel
theorem dX9_find_392 : decode cX9_find 392 = .ok (.invokevirtual 71, 3) := by decide +kernel
theorem dX9_find_395 : decode cX9_find 395 = .ok (.aload_n 0, 1) := by decide +kernel
theorem dX9_find_396 : decode cX9_find 396 = .ok (.iload_n 2, 1) := by decide +kernel
theorem dX9_find_397 : decode cX9_find 397 = .ok (.invokevirtual 71, 3) := by decide +kernel
theorem dX9_find_400 : decode cX9_find 400 = .ok (.imul, 1) := by decide +kernel
theorem dX9_find_401 : decode cX9_find 401 = .ok (.iadd, 1) := by decide +kernel
theorem dX9_find_402 : decode cX9_find 402 = .ok (.ineg, 1) := by decide +kernel
theorem dX9_find_403 : decode cX9_find 403 = .ok (.invokevirtual 61, 3) := by decide +kernel
theorem dX9_find_406 : decode cX9_find 406 = .ok (.ireturn, 1) := by decide +kernel
theorem dX9_find_407 : decode cX9_find 407 = .ok (.aload_n 0, 1) := by decide +kernel
theorem dX9_find_408 : decode cX9_find 408 = .ok (.aload_n 0, 1) := by decide +kernel
theorem dX9_find_409 : decode cX9_find 409 = .ok (.iload_n 3, 1) := by decide +kernel
theorem dX9_find_410 : decode cX9_find 410 = .ok (.invokevirtual 71, 3) := by decide +kernel
theorem dX9_find_413 : decode cX9_find 413 = .ok (.ineg, 1) := by decide +kernel
theorem dX9_find_414 : decode cX9_find 414 = .ok (.aload_n 0, 1) := by decide +kernel
theorem dX9_find_415 : decode cX9_find 415 = .ok (.iload_n 3, 1) := by decide +kernel
theorem dX9_find_416 : decode cX9_find 416 = .ok (.invokevirtual 68, 3) := by decide +kernel
theorem dX9_find_419 : decode cX9_find 419 = .ok (.aload_n 0, 1) := by decide +kernel
theorem dX9_find_420 : decode cX9_find 420 = .ok (.iload_n 3, 1) := by decide +kernel
theorem dX9_find_421 : decode cX9_find 421 = .ok (.invokevirtual 71, 3) := by decide +kernel
theorem dX9_find_424 : decode cX9_find 424 = .ok (.aload_n 0, 1) := by decide +kernel
theorem dX9_find_425 : decode cX9_find 425 = .ok (.iload_n 2, 1) := by decide +kernel
theorem dX9_find_426 : decode cX9_find 426 = .ok (.invokevirtual 68, 3) := by decide +kernel
theorem dX9_find_429 : decode cX9_find 429 = .ok (.imul, 1) := by decide +kernel
theorem dX9_find_430 : decode cX9_find 430 = .ok (.aload_n 0, 1) := by decide +kernel
theorem dX9_find_431 : decode cX9_find 431 = .ok (.iload_n 3, 1) := by decide +kernel
theorem dX9_find_432 : decode cX9_find 432 = .ok (.invokevirtual 68, 3) := by decide +kernel
theorem dX9_find_435 : decode cX9_find 435 = .ok (.aload_n 0, 1) := by decide +kernel
theorem dX9_find_436 : decode cX9_find 436 = .ok (.iload_n 2, 1) := by decide +kernel
theorem dX9_find_437 : decode cX9_find 437 = .ok (.invokevirtual 71, 3) := by decide +kernel
theorem dX9_find_440 : decode cX9_find 440 = .ok (.imul, 1) := by decide +kernel
theorem dX9_find_441 : decode cX9_find 441 = .ok (.isub, 1) := by decide +kernel
theorem dX9_find_442 : decode cX9_find 442 = .ok (.invokevirtual 77, 3) := by decide +kernel
theorem dX9_find_445 : decode cX9_find 445 = .ok (.ireturn, 1) := by decide +kernel
theorem dX9_find_446 : decode cX9_find 446 = .ok (.aload_n 0, 1) := by decide +kernel
theorem dX9_find_447 : decode cX9_find 447 = .ok (.iload_n 2, 1) := by decide +kernel
theorem dX9_find_448 : decode cX9_find 448 = .ok (.iload_n 3, 1) := by decide +kernel
theorem dX9_find_449 : decode cX9_find 449 = .ok (.invokevirtual 87, 3) := by decide +kernel
theorem dX9_find_452 : decode cX9_find 452 = .ok (.ireturn, 1) := by decide +kernel
theorem dX9_find_453 : decode cX9_find 453 = .ok (.aload_n 0, 1) := by decide +kernel
theorem dX9_find_454 : decode cX9_find 454 = .ok (.iload_n 2, 1) := by decide +kernel
theorem dX9_find_455 : decode cX9_find 455 = .ok (.iload_n 2, 1) := by decide +kernel
theorem dX9_find_456 : decode cX9_find 456 = .ok (.iload_n 3, 1) := by decide +kernel
theorem dX9_find_457 : decode cX9_find 457 = .ok (.invokevirtual 105, 3) := by decide +kernel
theorem dX9_find_460 : decode cX9_find 460 = .ok (.ireturn, 1) := by decide +kernel
theorem dX9_find_461 : decode cX9_find 461 = .ok (.aload_n 0, 1) := by decide +kernel
theorem dX9_find_462 : decode cX9_find 462 = .ok (.iload_n 2, 1) := by decide +kernel
theorem dX9_find_463 : decode cX9_find 463 = .ok (.iload_n 3, 1) := by decide +kernel
theorem dX9_find_464 : decode cX9_find 464 = .ok (.iload 4, 2) := by decide +kernel
theorem dX9_find_466 : decode cX9_find 466 = .ok (.invokevirtual 105, 3) := by decide +kernel
theorem dX9_find_469 : decode cX9_find 469 = .ok (.ireturn, 1) := by decide +kernel
theorem dX9_find_470 : decode cX9_find 470 = .ok (.aload_n 0, 1) := by decide +kernel
theorem dX9_find_471 : decode cX9_find 471 = .ok (.iload_n 2, 1) := by decide +kernel
theorem dX9_find_472 : decode cX9_find 472 = .ok (.iload_n 3, 1) := by decide +kernel
theorem dX9_find_473 : decode cX9_find 473 = .ok (.iload 4, 2) := by decide +kernel
theorem dX9_find_475 : decode cX9_find 475 = .ok (.invokevirtual 108, 3) := by decide +kernel
theorem dX9_find_478 : decode cX9_find 478 = .ok (.ireturn, 1) := by decide +kernel
set_option maxRecDepth 20000 in
theorem ggX9_findAll_X9_get : GoodIn wsX9_findAll wsX9_get := goodIn_r _ [8, 2, 90, 91, 92, 93, 94, 95, 96, 97, 98, 99] (by decide +kernel) (by decide +kernel)
set_option maxRecDepth 20000 in
theorem gX9_findAll_X9_get : GoodIn wsX9_findAll (wsV RX9 39 RX9 yX9_get wsX9_get) := goodIn_app (goodIn_of _ (by decide +kernel)) ggX9_findAll_X9_get
set_option maxRecDepth 20000 in
theorem ggX9_findAll_X9_lacks : GoodIn wsX9_findAll wsX9_lacks := goodIn_r _ [12, 4, 5, 6, 7, 8, 2, 90, 91, 92, 93, 94, 95, 96, 97, 98, 99] (by decide +kernel) (by decide +kernel)
set_option maxRecDepth 20000 in
theorem gX9_findAll_X9_lacks : GoodIn wsX9_findAll (wsV RX9 111 RX9 yX9_lacks wsX9_lacks) := goodIn_app (goodIn_of _ (by decide +kernel)) ggX9_findAll_X9_lacks
set_option maxRecDepth 20000 in
theorem ggX9_findAll_X9_find : GoodIn wsX9_findAll wsX9_find := goodIn_r _ [16, 4, 5, 6, 7, 8, 2, 17, 18, 19, 20, 3, 21, 22, 23, 24, 25, 26, 27, 28, 29, 30, 31, 32, 33, 34, 35, 36, 37, 38, 39, 40, 41, 42, 43, 44, 45, 46, 47, 48, 49, 50, 51, 52, 53, 54, 55, 56, 57, 58, 59, 60, 61, 62, 63, 64, 65, 66, 67, 68, 69, 70, 71, 72, 73, 74, 75, 76, 77, 78, 79, 80, 81, 82, 83, 84, 85, 86, 87, 88, 89, 90, 91, 92, 93, 94, 95, 96, 97, 98, 99] (by decide +kernel) (by decide +kernel)
set_option maxRecDepth 20000 in
theorem gX9_findAll_X9_find : GoodIn wsX9_findAll (wsV RX9 115 RX9 yX9_find wsX9_find) := goodIn_app (goodIn_of _ (by decide +kernel)) ggX9_findAll_X9_find
theorem dX9_findAll_0 : decode cX9_findAll 0 = .ok (.iconst 0, 1) := by decide +kernel
theorem dX9_findAll_1 : decode cX9_findAll 1 = .ok (.istore_n 1, 1) := by decide +kernel
theorem dX9_findAll_2 : decode cX9_findAll 2 = .ok (.iload_n 1, 1) := by decide +kernel
theorem dX9_findAll_3 : decode cX9_findAll 3 = .ok (.aload_n 0, 1) := by decide +kernel
theorem dX9_findAll_4 : decode cX9_findAll 4 = .ok (.getfield 32, 3) := by decide +kernel
theorem dX9_findAll_7 : decode cX9_findAll 7 = .ok (.if_icmp .ge 137, 3) := by decide +kernel
theorem dX9_findAll_10 : decode cX9_findAll 10 = .ok (.iconst 1, 1) := by decide +kernel
theorem dX9_findAll_11 : decode cX9_findAll 11 = .ok (.istore_n 2, 1) := by decide +kernel
theorem dX9_findAll_12 : decode cX9_findAll 12 = .ok (.iconst 0, 1) := by decide +kernel
theorem dX9_findAll_13 : decode cX9_findAll 13 = .ok (.istore_n 3, 1) := by decide +kernel
theorem dX9_findAll_14 : decode cX9_findAll 14 = .ok (.iload_n 3, 1) := by decide +kernel
theorem dX9_findAll_15 : decode cX9_findAll 15 = .ok (.iconst 3, 1) := by decide +kernel
theorem dX9_findAll_16 : decode cX9_findAll 16 = .ok (.if_icmp .ge 46, 3) := by decide +kernel
theorem dX9_findAll_19 : decode cX9_findAll 19 = .ok (.iload_n 2, 1) := by decide +kernel
theorem dX9_findAll_20 : decode cX9_findAll 20 = .ok (.ifCond .eq 34, 3) := by decide +kernel
theorem dX9_findAll_23 : decode cX9_findAll 23 = .ok (.aload_n 0, 1) := by decide +kernel
theorem dX9_findAll_24 : decode cX9_findAll 24 = .ok (.iload_n 1, 1) := by decide +kernel
theorem dX9_findAll_25 : decode cX9_findAll 25 = .ok (.iconst 2, 1) := by decide +kernel
theorem dX9_findAll_26 : decode cX9_findAll 26 = .ok (.iload_n 3, 1) := by decide +kernel
theorem dX9_findAll_27 : decode cX9_findAll 27 = .ok (.iadd, 1) := by decide +kernel
theorem dX9_findAll_28 : decode cX9_findAll 28 = .ok (.invokevirtual 39, 3) := by decide +kernel
theorem dX9_findAll_31 : decode cX9_findAll 31 = .ok (.iconst (-1), 1) := by decide +kernel
theorem dX9_findAll_32 : decode cX9_findAll 32 = .ok (.if_icmp .eq 18, 3) := by decide +kernel
theorem dX9_findAll_35 : decode cX9_findAll 35 = .ok (.aload_n 0, 1) := by decide +kernel
theorem dX9_findAll_36 : decode cX9_findAll 36 = .ok (.aload_n 0, 1) := by decide +kernel
theorem dX9_findAll_37 : decode cX9_findAll 37 = .ok (.iload_n 1, 1) := by decide +kernel
theorem dX9_findAll_38 : decode cX9_findAll 38 = .ok (.iconst 2, 1) := by decide +kernel
theorem dX9_findAll_39 : decode cX9_findAll 39 = .ok (.iload_n 3, 1) := by decide +kernel
theorem dX9_findAll_40 : decode cX9_findAll 40 = .ok (.iadd, 1) := by decide +kernel
theorem dX9_findAll_41 : decode cX9_findAll 41 = .ok (.invokevirtual 39, 3) := by decide +kernel
theorem dX9_findAll_44 : decode cX9_findAll 44 = .ok (.invokevirtual 111, 3) := by decide +kernel
theorem dX9_findAll_47 : decode cX9_findAll 47 = .ok (.ifCond .ne 7, 3) := by decide +kernel
theorem dX9_findAll_50 : decode cX9_findAll 50 = .ok (.iconst 1, 1) := by decide +kernel
theorem dX9_findAll_51 : decode cX9_findAll 51 = .ok (.goto 4, 3) := by decide +kernel
theorem dX9_findAll_54 : decode cX9_findAll 54 = .ok (.iconst 0, 1) := by decide +kernel
theorem dX9_findAll_55 : decode cX9_findAll 55 = .ok (.istore_n 2, 1) := by decide +kernel
theorem dX9_findAll_56 : decode cX9_findAll 56 = .ok (.iinc 3 1, 3) := by decide +kernel
theorem dX9_findAll_59 : decode cX9_findAll 59 = .ok (.goto (-45), 3) := by decide +kernel
theorem dX9_findAll_62 : decode cX9_findAll 62 = .ok (.iload_n 2, 1) := by decide +kernel
theorem dX9_findAll_63 : decode cX9_findAll 63 = .ok (.ifCond .eq 15, 3) := by decide +kernel
theorem dX9_findAll_66 : decode cX9_findAll 66 = .ok (.aload_n 0, 1) := by decide +kernel
theorem dX9_findAll_67 : decode cX9_findAll 67 = .ok (.iload_n 1, 1) := by decide +kernel
theorem dX9_findAll_68 : decode cX9_findAll 68 = .ok (.invokevirtual 115, 3) := by decide +kernel
theorem dX9_findAll_71 : decode cX9_findAll 71 = .ok (.ifCond .eq 7, 3) := by decide +kernel
theorem dX9_findAll_74 : decode cX9_findAll 74 = .ok (.iconst 1, 1) := by decide +kernel
theorem dX9_findAll_75 : decode cX9_findAll 75 = .ok (.goto 4, 3) := by decide +kernel
theorem dX9_findAll_78 : decode cX9_findAll 78 = .ok (.iconst 0, 1) := by decide +kernel
theorem dX9_findAll_79 : decode cX9_findAll 79 = .ok (.istore_n 2, 1) := by decide +kernel
theorem dX9_findAll_80 : decode cX9_findAll 80 = .ok (.aload_n 0, 1) := by decide +kernel
theorem dX9_findAll_81 : decode cX9_findAll 81 = .ok (.getfield 13, 3) := by decide +kernel
theorem dX9_findAll_84 : decode cX9_findAll 84 = .ok (.bipush 11, 2) := by decide +kernel
theorem dX9_findAll_86 : decode cX9_findAll 86 = .ok (.iload_n 1, 1) := by decide +kernel
theorem dX9_findAll_87 : decode cX9_findAll 87 = .ok (.imul, 1) := by decide +kernel
theorem dX9_findAll_88 : decode cX9_findAll 88 = .ok (.bipush 7, 2) := by decide +kernel
theorem dX9_findAll_90 : decode cX9_findAll 90 = .ok (.iadd, 1) := by decide +kernel
theorem dX9_findAll_91 : decode cX9_findAll 91 = .ok (.iload_n 2, 1) := by decide +kernel
theorem dX9_findAll_92 : decode cX9_findAll 92 = .ok (.ifCond .eq 7, 3) := by decide +kernel
theorem dX9_findAll_95 : decode cX9_findAll 95 = .ok (.iconst 0, 1) := by decide +kernel
theorem dX9_findAll_96 : decode cX9_findAll 96 = .ok (.goto 4, 3) := by decide +kernel
theorem dX9_findAll_99 : decode cX9_findAll 99 = .ok (.iconst 1, 1) := by decide +kernel
theorem dX9_findAll_100 : decode cX9_findAll 100 = .ok (.iastore, 1) := by decide +kernel
theorem dX9_findAll_101 : decode cX9_findAll 101 = .ok (.iconst 0, 1) := by decide +kernel
theorem dX9_findAll_102 : decode cX9_findAll 102 = .ok (.istore_n 3, 1) := by decide +kernel
theorem dX9_findAll_103 : decode cX9_findAll 103 = .ok (.iload_n 3, 1) := by decide +kernel
theorem dX9_findAll_104 : decode cX9_findAll 104 = .ok (.iconst 3, 1) := by decide +kernel
theorem dX9_findAll_105 : decode cX9_findAll 105 = .ok (.if_icmp .ge 33, 3) := by decide +kernel
theorem dX9_findAll_108 : decode cX9_findAll 108 = .ok (.iload_n 2, 1) := by decide +kernel
theorem dX9_findAll_109 : decode cX9_findAll 109 = .ok (.ifCond .eq 29, 3) := by decide +kernel
theorem dX9_findAll_112 : decode cX9_findAll 112 = .ok (.aload_n 0, 1) := by decide +kernel
theorem dX9_findAll_113 : decode cX9_findAll 113 = .ok (.getfield 13, 3) := by decide +kernel
theorem dX9_findAll_116 : decode cX9_findAll 116 = .ok (.bipush 11, 2) := by decide +kernel
theorem dX9_findAll_118 : decode cX9_findAll 118 = .ok (.iload_n 1, 1) := by decide +kernel
theorem dX9_findAll_119 : decode cX9_findAll 119 = .ok (.imul, 1) := by decide +kernel
theorem dX9_findAll_120 : decode cX9_findAll 120 = .ok (.bipush 8, 2) := by decide +kernel
theorem dX9_findAll_122 : decode cX9_findAll 122 = .ok (.iadd, 1) := by decide +kernel
theorem dX9_findAll_123 : decode cX9_findAll 123 = .ok (.iload_n 3, 1) := by decide +kernel
theorem dX9_findAll_124 : decode cX9_findAll 124 = .ok (.iadd, 1) := by decide +kernel
theorem dX9_findAll_125 : decode cX9_findAll 125 = .ok (.aload_n 0, 1) := by decide +kernel
theorem dX9_findAll_126 : decode cX9_findAll 126 = .ok (.getfield 20, 3) := by decide +kernel
theorem dX9_findAll_129 : decode cX9_findAll 129 = .ok (.iload_n 3, 1) := by decide +kernel
theorem dX9_findAll_130 : decode cX9_findAll 130 = .ok (.iaload, 1) := by decide +kernel
theorem dX9_findAll_131 : decode cX9_findAll 131 = .ok (.iastore, 1) := by decide +kernel
theorem dX9_findAll_132 : decode cX9_findAll 132 = .ok (.iinc 3 1, 3) := by decide +kernel
theorem dX9_findAll_135 : decode cX9_findAll 135 = .ok (.goto (-32), 3) := by decide +kernel
theorem dX9_findAll_138 : decode cX9_findAll 138 = .ok (.iinc 1 1, 3) := by decide +kernel
theorem dX9_findAll_141 : decode cX9_findAll 141 = .ok (.goto (-139), 3) := by decide +kernel
theorem dX9_findAll_144 : decode cX9_findAll 144 = .ok (.return_, 1) := by decide +kernel
set_option maxRecDepth 20000 in
theorem ggX9_counted_X9_get : GoodIn wsX9_counted wsX9_get := goodIn_r _ [8, 9, 10, 11, 12, 13, 14, 15, 16, 17, 18, 19] (by decide +kernel) (by decide +kernel)
set_option maxRecDepth 20000 in
theorem gX9_counted_X9_get : GoodIn wsX9_counted (wsV RX9 39 RX9 yX9_get wsX9_get) := goodIn_app (goodIn_of _ (by decide +kernel)) ggX9_counted_X9_get
theorem dX9_counted_0 : decode cX9_counted 0 = .ok (.iconst 0, 1) := by decide +kernel
theorem dX9_counted_1 : decode cX9_counted 1 = .ok (.istore_n 2, 1) := by decide +kernel
theorem dX9_counted_2 : decode cX9_counted 2 = .ok (.iload_n 1, 1) := by decide +kernel
theorem dX9_counted_3 : decode cX9_counted 3 = .ok (.iconst 3, 1) := by decide +kernel
theorem dX9_counted_4 : decode cX9_counted 4 = .ok (.if_icmp .ge 31, 3) := by decide +kernel
theorem dX9_counted_7 : decode cX9_counted 7 = .ok (.iload_n 1, 1) := by decide +kernel
theorem dX9_counted_8 : decode cX9_counted 8 = .ok (.ifCond .ne 10, 3) := by decide +kernel
theorem dX9_counted_11 : decode cX9_counted 11 = .ok (.aload_n 0, 1) := by decide +kernel
theorem dX9_counted_12 : decode cX9_counted 12 = .ok (.getfield 7, 3) := by decide +kernel
theorem dX9_counted_15 : decode cX9_counted 15 = .ok (.goto 19, 3) := by decide +kernel
theorem dX9_counted_18 : decode cX9_counted 18 = .ok (.iload_n 1, 1) := by decide +kernel
theorem dX9_counted_19 : decode cX9_counted 19 = .ok (.iconst 1, 1) := by decide +kernel
theorem dX9_counted_20 : decode cX9_counted 20 = .ok (.if_icmp .ne 10, 3) := by decide +kernel
theorem dX9_counted_23 : decode cX9_counted 23 = .ok (.aload_n 0, 1) := by decide +kernel
theorem dX9_counted_24 : decode cX9_counted 24 = .ok (.getfield 32, 3) := by decide +kernel
theorem dX9_counted_27 : decode cX9_counted 27 = .ok (.goto 7, 3) := by decide +kernel
theorem dX9_counted_30 : decode cX9_counted 30 = .ok (.aload_n 0, 1) := by decide +kernel
theorem dX9_counted_31 : decode cX9_counted 31 = .ok (.getfield 55, 3) := by decide +kernel
theorem dX9_counted_34 : decode cX9_counted 34 = .ok (.ireturn, 1) := by decide +kernel
theorem dX9_counted_35 : decode cX9_counted 35 = .ok (.iconst 0, 1) := by decide +kernel
theorem dX9_counted_36 : decode cX9_counted 36 = .ok (.istore_n 3, 1) := by decide +kernel
theorem dX9_counted_37 : decode cX9_counted 37 = .ok (.iload_n 3, 1) := by decide +kernel
theorem dX9_counted_38 : decode cX9_counted 38 = .ok (.aload_n 0, 1) := by decide +kernel
theorem dX9_counted_39 : decode cX9_counted 39 = .ok (.getfield 32, 3) := by decide +kernel
theorem dX9_counted_42 : decode cX9_counted 42 = .ok (.if_icmp .ge 41, 3) := by decide +kernel
theorem dX9_counted_45 : decode cX9_counted 45 = .ok (.iload_n 2, 1) := by decide +kernel
theorem dX9_counted_46 : decode cX9_counted 46 = .ok (.iload_n 1, 1) := by decide +kernel
theorem dX9_counted_47 : decode cX9_counted 47 = .ok (.iconst 3, 1) := by decide +kernel
theorem dX9_counted_48 : decode cX9_counted 48 = .ok (.if_icmp .ne 20, 3) := by decide +kernel
theorem dX9_counted_51 : decode cX9_counted 51 = .ok (.aload_n 0, 1) := by decide +kernel
theorem dX9_counted_52 : decode cX9_counted 52 = .ok (.iload_n 3, 1) := by decide +kernel
theorem dX9_counted_53 : decode cX9_counted 53 = .ok (.iconst 1, 1) := by decide +kernel
theorem dX9_counted_54 : decode cX9_counted 54 = .ok (.invokevirtual 39, 3) := by decide +kernel
theorem dX9_counted_57 : decode cX9_counted 57 = .ok (.ifCond .ne 7, 3) := by decide +kernel
theorem dX9_counted_60 : decode cX9_counted 60 = .ok (.iconst 1, 1) := by decide +kernel
theorem dX9_counted_61 : decode cX9_counted 61 = .ok (.goto 14, 3) := by decide +kernel
theorem dX9_counted_64 : decode cX9_counted 64 = .ok (.iconst 0, 1) := by decide +kernel
theorem dX9_counted_65 : decode cX9_counted 65 = .ok (.goto 10, 3) := by decide +kernel
theorem dX9_counted_68 : decode cX9_counted 68 = .ok (.aload_n 0, 1) := by decide +kernel
theorem dX9_counted_69 : decode cX9_counted 69 = .ok (.iload_n 3, 1) := by decide +kernel
theorem dX9_counted_70 : decode cX9_counted 70 = .ok (.bipush 7, 2) := by decide +kernel
theorem dX9_counted_72 : decode cX9_counted 72 = .ok (.invokevirtual 39, 3) := by decide +kernel
theorem dX9_counted_75 : decode cX9_counted 75 = .ok (.iadd, 1) := by decide +kernel
theorem dX9_counted_76 : decode cX9_counted 76 = .ok (.istore_n 2, 1) := by decide +kernel
theorem dX9_counted_77 : decode cX9_counted 77 = .ok (.iinc 3 1, 3) := by decide +kernel
theorem dX9_counted_80 : decode cX9_counted 80 = .ok (.goto (-43), 3) := by decide +kernel
theorem dX9_counted_83 : decode cX9_counted 83 = .ok (.iload_n 2, 1) := by decide +kernel
theorem dX9_counted_84 : decode cX9_counted 84 = .ok (.ireturn, 1) := by decide +kernel
set_option maxRecDepth 20000 in
theorem ggX9_count_X9_isIn : GoodIn wsX9_count wsX9_isIn := goodIn_r _ [5] (by decide +kernel) (by decide +kernel)
set_option maxRecDepth 20000 in
theorem gX9_count_X9_isIn : GoodIn wsX9_count (va_wsS RX9 35 yX9_isIn wsX9_isIn) := goodIn_app (goodIn_of _ (by decide +kernel)) ggX9_count_X9_isIn
set_option maxRecDepth 20000 in
theorem ggX9_count_X9_counted : GoodIn wsX9_count wsX9_counted := goodIn_r _ [9, 10, 11, 12, 13, 14, 15, 4, 16, 17, 22, 23, 24, 25, 26, 27, 28, 29, 30, 31] (by decide +kernel) (by decide +kernel)
set_option maxRecDepth 20000 in
theorem gX9_count_X9_counted : GoodIn wsX9_count (wsV RX9 118 RX9 yX9_counted wsX9_counted) := goodIn_app (goodIn_of _ (by decide +kernel)) ggX9_count_X9_counted
set_option maxRecDepth 20000 in
theorem ggX9_count_X9_fail : GoodIn wsX9_count wsX9_fail := goodIn_r _ [21, 1, 22, 23, 24, 25, 26, 27, 28, 29, 30, 31] (by decide +kernel) (by decide +kernel)
