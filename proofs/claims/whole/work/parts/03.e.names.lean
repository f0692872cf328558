theorem dX7_clear_1 : decode cX7_clear 1 = .ok (.getfield 10, 3) := by decide +kernel
theorem dX7_clear_4 : decode cX7_clear 4 = .ok (.iconst 0, 1) := by decide +kernel
theorem dX7_clear_5 : decode cX7_clear 5 = .ok (.putfield 16, 3) := by decide +kernel
theorem dX7_clear_8 : decode cX7_clear 8 = .ok (.aload_n 0, 1) := by decide +kernel
theorem dX7_clear_9 : decode cX7_clear 9 = .ok (.iconst 0, 1) := by decide +kernel
theorem dX7_clear_10 : decode cX7_clear 10 = .ok (.putfield 20, 3) := by decide +kernel
theorem dX7_clear_13 : decode cX7_clear 13 = .ok (.return_, 1) := by decide +kernel
set_option maxRecDepth 20000 in
theorem ggX7_look_X7_knows : GoodIn wsX7_look wsX7_knows := goodIn_r _ [10, 3, 11, 12, 13, 14, 15, 16, 17, 18, 19, 20, 21, 22, 23, 24, 25, 26, 27, 50, 51, 52, 53, 54, 37, 38, 39, 40, 41, 42, 43, 44, 45, 46, 47, 48, 49] (by decide +kernel) (by decide +kernel)
set_option maxRecDepth 20000 in
theorem gX7_look_X7_knows : GoodIn wsX7_look (wsV RX7 29 RX7 yX7_knows wsX7_knows) := goodIn_app (goodIn_of _ (by decide +kernel)) ggX7_look_X7_knows
set_option maxRecDepth 20000 in
theorem ggX7_look_X6_next : GoodIn wsX7_look wsX6_next := goodIn_r _ [31, 17, 18, 19, 32, 13, 14, 15, 16, 52, 53, 54] (by decide +kernel) (by decide +kernel)
set_option maxRecDepth 20000 in
theorem gX7_look_X6_next : GoodIn wsX7_look (wsV RX7 33 RX6 yX6_next wsX6_next) := goodIn_app (goodIn_of _ (by decide +kernel)) ggX7_look_X6_next
set_option maxRecDepth 20000 in
theorem ggX7_look_X4_put : GoodIn wsX7_look wsX4_put := goodIn_r _ [36, 25, 26, 27, 37, 38, 39, 40, 41, 42, 43, 44, 45, 46, 47, 48, 49] (by decide +kernel) (by decide +kernel)
set_option maxRecDepth 20000 in
theorem gX7_look_X4_put : GoodIn wsX7_look (wsV RX7 43 RX4 yX4_put wsX4_put) := goodIn_app (goodIn_of _ (by decide +kernel)) ggX7_look_X4_put
theorem dX7_look_0 : decode cX7_look 0 = .ok (.aload_n 1, 1) := by decide +kernel
theorem dX7_look_1 : decode cX7_look 1 = .ok (.getfield 23, 3) := by decide +kernel
theorem dX7_look_4 : decode cX7_look 4 = .ok (.ifCond .eq 16, 3) := by decide +kernel
theorem dX7_look_7 : decode cX7_look 7 = .ok (.aload_n 0, 1) := by decide +kernel
theorem dX7_look_8 : decode cX7_look 8 = .ok (.dup, 1) := by decide +kernel
theorem dX7_look_9 : decode cX7_look 9 = .ok (.getfield 20, 3) := by decide +kernel
theorem dX7_look_12 : decode cX7_look 12 = .ok (.iconst 1, 1) := by decide +kernel
theorem dX7_look_13 : decode cX7_look 13 = .ok (.iadd, 1) := by decide +kernel
theorem dX7_look_14 : decode cX7_look 14 = .ok (.putfield 20, 3) := by decide +kernel
theorem dX7_look_17 : decode cX7_look 17 = .ok (.goto 30, 3) := by decide +kernel
theorem dX7_look_20 : decode cX7_look 20 = .ok (.aload_n 0, 1) := by decide +kernel
theorem dX7_look_21 : decode cX7_look 21 = .ok (.aload_n 1, 1) := by decide +kernel
theorem dX7_look_22 : decode cX7_look 22 = .ok (.invokevirtual 29, 3) := by decide +kernel
theorem dX7_look_25 : decode cX7_look 25 = .ok (.ifCond .ne 22, 3) := by decide +kernel
theorem dX7_look_28 : decode cX7_look 28 = .ok (.aload_n 0, 1) := by decide +kernel
theorem dX7_look_29 : decode cX7_look 29 = .ok (.getfield 10, 3) := by decide +kernel
theorem dX7_look_32 : decode cX7_look 32 = .ok (.invokevirtual 33, 3) := by decide +kernel
theorem dX7_look_35 : decode cX7_look 35 = .ok (.aload_n 1, 1) := by decide +kernel
theorem dX7_look_36 : decode cX7_look 36 = .ok (.getfield 37, 3) := by decide +kernel
theorem dX7_look_39 : decode cX7_look 39 = .ok (.aload_n 1, 1) := by decide +kernel
theorem dX7_look_40 : decode cX7_look 40 = .ok (.getfield 40, 3) := by decide +kernel
theorem dX7_look_43 : decode cX7_look 43 = .ok (.iconst 0, 1) := by decide +kernel
theorem dX7_look_44 : decode cX7_look 44 = .ok (.invokevirtual 43, 3) := by decide +kernel
theorem dX7_look_47 : decode cX7_look 47 = .ok (.return_, 1) := by decide +kernel
set_option maxRecDepth 20000 in
theorem ggX7_knows_X6_at : GoodIn wsX7_knows wsX6_at := goodIn_r _ [7, 8, 9, 10, 21, 22, 23] (by decide +kernel) (by decide +kernel)
set_option maxRecDepth 20000 in
theorem gX7_knows_X6_at : GoodIn wsX7_knows (wsV RX7 47 RX6 yX6_at wsX6_at) := goodIn_app (goodIn_of _ (by decide +kernel)) ggX7_knows_X6_at
set_option maxRecDepth 20000 in
theorem ggX7_knows_X4_isLike : GoodIn wsX7_knows wsX4_isLike := goodIn_r _ [15, 16, 17, 18, 24, 25, 26, 27, 28, 29, 30, 31, 32, 33, 34, 35, 36] (by decide +kernel) (by decide +kernel)
set_option maxRecDepth 20000 in
theorem gX7_knows_X4_isLike : GoodIn wsX7_knows (wsV RX7 51 RX4 yX4_isLike wsX4_isLike) := goodIn_app (goodIn_of _ (by decide +kernel)) ggX7_knows_X4_isLike
theorem dX7_knows_0 : decode cX7_knows 0 = .ok (.iconst 0, 1) := by decide +kernel
theorem dX7_knows_1 : decode cX7_knows 1 = .ok (.istore_n 2, 1) := by decide +kernel
theorem dX7_knows_2 : decode cX7_knows 2 = .ok (.iload_n 2, 1) := by decide +kernel
theorem dX7_knows_3 : decode cX7_knows 3 = .ok (.aload_n 0, 1) := by decide +kernel
theorem dX7_knows_4 : decode cX7_knows 4 = .ok (.getfield 10, 3) := by decide +kernel
theorem dX7_knows_7 : decode cX7_knows 7 = .ok (.getfield 16, 3) := by decide +kernel
theorem dX7_knows_10 : decode cX7_knows 10 = .ok (.if_icmp .ge 26, 3) := by decide +kernel
theorem dX7_knows_13 : decode cX7_knows 13 = .ok (.aload_n 0, 1) := by decide +kernel
theorem dX7_knows_14 : decode cX7_knows 14 = .ok (.getfield 10, 3) := by decide +kernel
theorem dX7_knows_17 : decode cX7_knows 17 = .ok (.iload_n 2, 1) := by decide +kernel
theorem dX7_knows_18 : decode cX7_knows 18 = .ok (.invokevirtual 47, 3) := by decide +kernel
theorem dX7_knows_21 : decode cX7_knows 21 = .ok (.aload_n 1, 1) := by decide +kernel
theorem dX7_knows_22 : decode cX7_knows 22 = .ok (.invokevirtual 51, 3) := by decide +kernel
theorem dX7_knows_25 : decode cX7_knows 25 = .ok (.ifCond .eq 5, 3) := by decide +kernel
theorem dX7_knows_28 : decode cX7_knows 28 = .ok (.iconst 1, 1) := by decide +kernel
theorem dX7_knows_29 : decode cX7_knows 29 = .ok (.ireturn, 1) := by decide +kernel
theorem dX7_knows_30 : decode cX7_knows 30 = .ok (.iinc 2 1, 3) := by decide +kernel
theorem dX7_knows_33 : decode cX7_knows 33 = .ok (.goto (-31), 3) := by decide +kernel
theorem dX7_knows_36 : decode cX7_knows 36 = .ok (.iconst 0, 1) := by decide +kernel
theorem dX7_knows_37 : decode cX7_knows 37 = .ok (.ireturn, 1) := by decide +kernel
set_option maxRecDepth 20000 in
theorem ggX7_sum_X6_at : GoodIn wsX7_sum wsX6_at := goodIn_r _ [9, 10, 11, 12, 15, 16, 17] (by decide +kernel) (by decide +kernel)
set_option maxRecDepth 20000 in
theorem gX7_sum_X6_at : GoodIn wsX7_sum (wsV RX7 47 RX6 yX6_at wsX6_at) := goodIn_app (goodIn_of _ (by decide +kernel)) ggX7_sum_X6_at
theorem dX7_sum_0 : decode cX7_sum 0 = .ok (.iconst 0, 1) := by decide +kernel
theorem dX7_sum_1 : decode cX7_sum 1 = .ok (.istore_n 2, 1) := by decide +kernel
theorem dX7_sum_2 : decode cX7_sum 2 = .ok (.iconst 0, 1) := by decide +kernel
theorem dX7_sum_3 : decode cX7_sum 3 = .ok (.istore_n 3, 1) := by decide +kernel
theorem dX7_sum_4 : decode cX7_sum 4 = .ok (.iload_n 3, 1) := by decide +kernel
theorem dX7_sum_5 : decode cX7_sum 5 = .ok (.aload_n 0, 1) := by decide +kernel
theorem dX7_sum_6 : decode cX7_sum 6 = .ok (.getfield 10, 3) := by decide +kernel
theorem dX7_sum_9 : decode cX7_sum 9 = .ok (.getfield 16, 3) := by decide +kernel
theorem dX7_sum_12 : decode cX7_sum 12 = .ok (.if_icmp .ge 35, 3) := by decide +kernel
theorem dX7_sum_15 : decode cX7_sum 15 = .ok (.aload_n 0, 1) := by decide +kernel
theorem dX7_sum_16 : decode cX7_sum 16 = .ok (.getfield 10, 3) := by decide +kernel
theorem dX7_sum_19 : decode cX7_sum 19 = .ok (.iload_n 3, 1) := by decide +kernel
theorem dX7_sum_20 : decode cX7_sum 20 = .ok (.invokevirtual 47, 3) := by decide +kernel
theorem dX7_sum_23 : decode cX7_sum 23 = .ok (.astore 4, 2) := by decide +kernel
theorem dX7_sum_25 : decode cX7_sum 25 = .ok (.iload_n 2, 1) := by decide +kernel
theorem dX7_sum_26 : decode cX7_sum 26 = .ok (.iload_n 1, 1) := by decide +kernel
theorem dX7_sum_27 : decode cX7_sum 27 = .ok (.aload 4, 2) := by decide +kernel
theorem dX7_sum_29 : decode cX7_sum 29 = .ok (.getfield 37, 3) := by decide +kernel
theorem dX7_sum_32 : decode cX7_sum 32 = .ok (.imul, 1) := by decide +kernel
theorem dX7_sum_33 : decode cX7_sum 33 = .ok (.aload 4, 2) := by decide +kernel
theorem dX7_sum_35 : decode cX7_sum 35 = .ok (.getfield 40, 3) := by decide +kernel
theorem dX7_sum_38 : decode cX7_sum 38 = .ok (.iadd, 1) := by decide +kernel
theorem dX7_sum_39 : decode cX7_sum 39 = .ok (.iadd, 1) := by decide +kernel
theorem dX7_sum_40 : decode cX7_sum 40 = .ok (.istore_n 2, 1) := by decide +kernel
theorem dX7_sum_41 : decode cX7_sum 41 = .ok (.iinc 3 1, 3) := by decide +kernel
theorem dX7_sum_44 : decode cX7_sum 44 = .ok (.goto (-40), 3) := by decide +kernel
theorem dX7_sum_47 : decode cX7_sum 47 = .ok (.iload_n 2, 1) := by decide +kernel
theorem dX7_sum_48 : decode cX7_sum 48 = .ok (.ireturn, 1) := by decide +kernel
set_option maxRecDepth 20000 in
theorem ggX8_init_X5_init : GoodIn wsX8_init wsX5_init := goodIn_r _ [25, 26, 2, 3, 27, 28, 29, 30, 31, 32, 33, 34, 35, 36, 37, 38, 39, 40, 41, 42, 43, 44, 45, 46, 47, 48, 49, 50, 51, 52, 53, 54, 55, 56, 57, 58, 59, 60, 61, 62, 118, 119, 108, 109, 110, 111, 128, 129, 130, 131, 132, 133, 134, 135, 136, 137, 138, 139, 140, 141, 142, 143] (by decide +kernel) (by decide +kernel)
set_option maxRecDepth 20000 in
theorem gX8_init_X5_init_n9 : GoodIn wsX8_init (wsX5_init) := ggX8_init_X5_init
set_option maxRecDepth 20000 in
theorem ggX8_init_X6_init : GoodIn wsX8_init wsX6_init := goodIn_r _ [65, 66, 2, 3, 67, 68, 34, 35, 69, 70, 55, 56, 57, 58, 59, 60, 61, 120, 121, 122, 128, 129, 130, 131, 132, 133, 134, 135, 136, 137, 138, 139, 140] (by decide +kernel) (by decide +kernel)
set_option maxRecDepth 20000 in
theorem gX8_init_X6_init : GoodIn wsX8_init (wsX6_init) := ggX8_init_X6_init
set_option maxRecDepth 20000 in
theorem ggX8_init_X1_init : GoodIn wsX8_init wsX1_init := goodIn_r _ [73, 74, 2, 3, 75, 76, 77, 78, 79, 80, 81, 82, 83, 84, 85, 86, 123, 124, 125, 144, 145, 146, 147, 148] (by decide +kernel) (by decide +kernel)
set_option maxRecDepth 20000 in
theorem gX8_init_X1_init : GoodIn wsX8_init (wsX1_init) := ggX8_init_X1_init
set_option maxRecDepth 20000 in
theorem ggX8_init_X7_init : GoodIn wsX8_init wsX7_init := goodIn_r _ [88, 89, 2, 3, 90, 13, 14, 91, 92, 64, 65, 66, 67, 68, 34, 35, 69, 70, 55, 56, 57, 58, 59, 60, 61, 120, 121, 122, 126, 127, 128, 129, 130, 131, 132, 133, 134, 135, 136, 137, 138, 139, 140] (by decide +kernel) (by decide +kernel)
set_option maxRecDepth 20000 in
theorem gX8_init_X7_init_n44 : GoodIn wsX8_init (wsX7_init) := ggX8_init_X7_init
set_option maxRecDepth 20000 in
theorem ggX8_init_X3_choose : GoodIn wsX8_init wsX3_choose := goodIn_r _ [96, 50, 53, 52, 97, 98, 99, 43, 100, 101, 102, 103, 104, 105, 106, 107, 141, 142, 143] (by decide +kernel) (by decide +kernel)
set_option maxRecDepth 20000 in
theorem gX8_init_X3_choose : GoodIn wsX8_init (wsV RX8 49 RX3 yX3_choose wsX3_choose) := goodIn_app (goodIn_of _ (by decide +kernel)) ggX8_init_X3_choose
theorem dX8_init_0 : decode cX8_init 0 = .ok (.aload_n 0, 1) := by decide +kernel
theorem dX8_init_1 : decode cX8_init 1 = .ok (.invokespecial 1, 3) := by decide +kernel
theorem dX8_init_4 : decode cX8_init 4 = .ok (.aload_n 0, 1) := by decide +kernel
theorem dX8_init_5 : decode cX8_init 5 = .ok (.new 7, 3) := by decide +kernel
theorem dX8_init_8 : decode cX8_init 8 = .ok (.dup, 1) := by decide +kernel
theorem dX8_init_9 : decode cX8_init 9 = .ok (.invokespecial 9, 3) := by decide +kernel
theorem dX8_init_12 : decode cX8_init 12 = .ok (.putfield 10, 3) := by decide +kernel
theorem dX8_init_15 : decode cX8_init 15 = .ok (.aload_n 0, 1) := by decide +kernel
theorem dX8_init_16 : decode cX8_init 16 = .ok (.aload_n 0, 1) := by decide +kernel
theorem dX8_init_17 : decode cX8_init 17 = .ok (.getfield 10, 3) := by decide +kernel
theorem dX8_init_20 : decode cX8_init 20 = .ok (.getfield 16, 3) := by decide +kernel
theorem dX8_init_23 : decode cX8_init 23 = .ok (.putfield 20, 3) := by decide +kernel
theorem dX8_init_26 : decode cX8_init 26 = .ok (.aload_n 0, 1) := by decide +kernel
theorem dX8_init_27 : decode cX8_init 27 = .ok (.aload_n 0, 1) := by decide +kernel
theorem dX8_init_28 : decode cX8_init 28 = .ok (.getfield 20, 3) := by decide +kernel
theorem dX8_init_31 : decode cX8_init 31 = .ok (.getfield 21, 3) := by decide +kernel
theorem dX8_init_34 : decode cX8_init 34 = .ok (.putfield 27, 3) := by decide +kernel
theorem dX8_init_37 : decode cX8_init 37 = .ok (.aload_n 0, 1) := by decide +kernel
theorem dX8_init_38 : decode cX8_init 38 = .ok (.new 28, 3) := by decide +kernel
theorem dX8_init_41 : decode cX8_init 41 = .ok (.dup, 1) := by decide +kernel
theorem dX8_init_42 : decode cX8_init 42 = .ok (.invokespecial 30, 3) := by decide +kernel
theorem dX8_init_45 : decode cX8_init 45 = .ok (.putfield 31, 3) := by decide +kernel
theorem dX8_init_48 : decode cX8_init 48 = .ok (.aload_n 0, 1) := by decide +kernel
theorem dX8_init_49 : decode cX8_init 49 = .ok (.new 35, 3) := by decide +kernel
theorem dX8_init_52 : decode cX8_init 52 = .ok (.dup, 1) := by decide +kernel
theorem dX8_init_53 : decode cX8_init 53 = .ok (.invokespecial 37, 3) := by decide +kernel
theorem dX8_init_56 : decode cX8_init 56 = .ok (.putfield 38, 3) := by decide +kernel
theorem dX8_init_59 : decode cX8_init 59 = .ok (.aload_n 0, 1) := by decide +kernel
theorem dX8_init_60 : decode cX8_init 60 = .ok (.new 42, 3) := by decide +kernel
theorem dX8_init_63 : decode cX8_init 63 = .ok (.dup, 1) := by decide +kernel
theorem dX8_init_64 : decode cX8_init 64 = .ok (.invokespecial 44, 3) := by decide +kernel
theorem dX8_init_67 : decode cX8_init 67 = .ok (.putfield 45, 3) := by decide +kernel
theorem dX8_init_70 : decode cX8_init 70 = .ok (.aload_n 0, 1) := by decide +kernel
theorem dX8_init_71 : decode cX8_init 71 = .ok (.getfield 27, 3) := by decide +kernel
theorem dX8_init_74 : decode cX8_init 74 = .ok (.bipush 43, 2) := by decide +kernel
theorem dX8_init_76 : decode cX8_init 76 = .ok (.invokevirtual 49, 3) := by decide +kernel
theorem dX8_init_79 : decode cX8_init 79 = .ok (.return_, 1) := by decide +kernel
set_option maxRecDepth 20000 in
theorem ggX8_begin_X3_isOffered : GoodIn wsX8_begin wsX3_isOffered := goodIn_r _ [11] (by decide +kernel) (by decide +kernel)
set_option maxRecDepth 20000 in
theorem gX8_begin_X3_isOffered : GoodIn wsX8_begin (va_wsS RX8 55 yX3_isOffered wsX3_isOffered) := goodIn_app (goodIn_of _ (by decide +kernel)) ggX8_begin_X3_isOffered
set_option maxRecDepth 20000 in
theorem ggX8_begin_X3_choose : GoodIn wsX8_begin wsX3_choose := goodIn_r _ [15, 16, 17, 18, 19, 20, 21, 10, 22, 23, 24, 25, 26, 27, 28, 29, 42, 43, 44] (by decide +kernel) (by decide +kernel)
set_option maxRecDepth 20000 in
theorem gX8_begin_X3_choose : GoodIn wsX8_begin (wsV RX8 49 RX3 yX3_choose wsX3_choose) := goodIn_app (goodIn_of _ (by decide +kernel)) ggX8_begin_X3_choose
theorem dX8_begin_0 : decode cX8_begin 0 = .ok (.iload_n 1, 1) := by decide +kernel
theorem dX8_begin_1 : decode cX8_begin 1 = .ok (.invokestatic 55, 3) := by decide +kernel
theorem dX8_begin_4 : decode cX8_begin 4 = .ok (.ifCond .ne 13, 3) := by decide +kernel
theorem dX8_begin_7 : decode cX8_begin 7 = .ok (.new 59, 3) := by decide +kernel
theorem dX8_begin_10 : decode cX8_begin 10 = .ok (.dup, 1) := by decide +kernel
theorem dX8_begin_11 : decode cX8_begin 11 = .ok (.ldc 61, 2) := by decide +kernel
theorem dX8_begin_13 : decode cX8_begin 13 = .ok (.invokespecial 63, 3) := by decide +kernel
theorem dX8_begin_16 : decode cX8_begin 16 = .ok (.athrow, 1) := by decide +kernel
theorem dX8_begin_17 : decode cX8_begin 17 = .ok (.aload_n 0, 1) := by decide +kernel
theorem dX8_begin_18 : decode cX8_begin 18 = .ok (.getfield 27, 3) := by decide +kernel
theorem dX8_begin_21 : decode cX8_begin 21 = .ok (.iload_n 1, 1) := by decide +kernel
theorem dX8_begin_22 : decode cX8_begin 22 = .ok (.invokevirtual 49, 3) := by decide +kernel
theorem dX8_begin_25 : decode cX8_begin 25 = .ok (.aload_n 0, 1) := by decide +kernel
theorem dX8_begin_26 : decode cX8_begin 26 = .ok (.getfield 31, 3) := by decide +kernel
theorem dX8_begin_29 : decode cX8_begin 29 = .ok (.iconst 0, 1) := by decide +kernel
theorem dX8_begin_30 : decode cX8_begin 30 = .ok (.putfield 66, 3) := by decide +kernel
theorem dX8_begin_33 : decode cX8_begin 33 = .ok (.aload_n 0, 1) := by decide +kernel
theorem dX8_begin_34 : decode cX8_begin 34 = .ok (.getfield 38, 3) := by decide +kernel
theorem dX8_begin_37 : decode cX8_begin 37 = .ok (.iconst 0, 1) := by decide +kernel
theorem dX8_begin_38 : decode cX8_begin 38 = .ok (.putfield 70, 3) := by decide +kernel
theorem dX8_begin_41 : decode cX8_begin 41 = .ok (.iload_n 1, 1) := by decide +kernel
theorem dX8_begin_42 : decode cX8_begin 42 = .ok (.iload_n 1, 1) := by decide +kernel
theorem dX8_begin_43 : decode cX8_begin 43 = .ok (.imul, 1) := by decide +kernel
theorem dX8_begin_44 : decode cX8_begin 44 = .ok (.ireturn, 1) := by decide +kernel
set_option maxRecDepth 20000 in
theorem ggX8_inverse_X3_has : GoodIn wsX8_inverse wsX3_has := goodIn_r _ [8, 9, 21, 22, 23] (by decide +kernel) (by decide +kernel)
set_option maxRecDepth 20000 in
theorem gX8_inverse_X3_has : GoodIn wsX8_inverse (wsV RX8 71 RX3 yX3_has wsX3_has) := goodIn_app (goodIn_of _ (by decide +kernel)) ggX8_inverse_X3_has
set_option maxRecDepth 20000 in
theorem ggX8_inverse_X3_inverseOf : GoodIn wsX8_inverse wsX3_inverseOf := goodIn_r _ [13, 14, 21, 22, 23] (by decide +kernel) (by decide +kernel)
set_option maxRecDepth 20000 in
theorem gX8_inverse_X3_inverseOf : GoodIn wsX8_inverse (wsV RX8 76 RX3 yX3_inverseOf wsX3_inverseOf) := goodIn_app (goodIn_of _ (by decide +kernel)) ggX8_inverse_X3_inverseOf
theorem dX8_inverse_0 : decode cX8_inverse 0 = .ok (.iload_n 1, 1) := by decide +kernel
theorem dX8_inverse_1 : decode cX8_inverse 1 = .ok (.ifCond .eq 14, 3) := by decide +kernel
theorem dX8_inverse_4 : decode cX8_inverse 4 = .ok (.aload_n 0, 1) := by decide +kernel
theorem dX8_inverse_5 : decode cX8_inverse 5 = .ok (.getfield 27, 3) := by decide +kernel
theorem dX8_inverse_8 : decode cX8_inverse 8 = .ok (.iload_n 1, 1) := by decide +kernel
theorem dX8_inverse_9 : decode cX8_inverse 9 = .ok (.invokevirtual 71, 3) := by decide +kernel
theorem dX8_inverse_12 : decode cX8_inverse 12 = .ok (.ifCond .ne 13, 3) := by decide +kernel
theorem dX8_inverse_15 : decode cX8_inverse 15 = .ok (.new 59, 3) := by decide +kernel
theorem dX8_inverse_18 : decode cX8_inverse 18 = .ok (.dup, 1) := by decide +kernel
theorem dX8_inverse_19 : decode cX8_inverse 19 = .ok (.ldc 74, 2) := by decide +kernel
theorem dX8_inverse_21 : decode cX8_inverse 21 = .ok (.invokespecial 63, 3) := by decide +kernel
theorem dX8_inverse_24 : decode cX8_inverse 24 = .ok (.athrow, 1) := by decide +kernel
theorem dX8_inverse_25 : decode cX8_inverse 25 = .ok (.aload_n 0, 1) := by decide +kernel
theorem dX8_inverse_26 : decode cX8_inverse 26 = .ok (.getfield 27, 3) := by decide +kernel
theorem dX8_inverse_29 : decode cX8_inverse 29 = .ok (.iload_n 1, 1) := by decide +kernel
theorem dX8_inverse_30 : decode cX8_inverse 30 = .ok (.invokevirtual 76, 3) := by decide +kernel
theorem dX8_inverse_33 : decode cX8_inverse 33 = .ok (.ireturn, 1) := by decide +kernel
set_option maxRecDepth 20000 in
theorem ggX8_root_X3_has : GoodIn wsX8_root wsX3_has := goodIn_r _ [8, 9, 29, 30, 31] (by decide +kernel) (by decide +kernel)
set_option maxRecDepth 20000 in
theorem gX8_root_X3_has : GoodIn wsX8_root (wsV RX8 71 RX3 yX3_has wsX3_has) := goodIn_app (goodIn_of _ (by decide +kernel)) ggX8_root_X3_has
set_option maxRecDepth 20000 in
theorem ggX8_root_X3_rootOf : GoodIn wsX8_root wsX3_rootOf := goodIn_r _ [13, 14, 15, 16, 17, 7, 18, 9, 19, 20, 21, 22, 29, 30, 31] (by decide +kernel) (by decide +kernel)
set_option maxRecDepth 20000 in
theorem gX8_root_X3_rootOf : GoodIn wsX8_root (wsV RX8 82 RX3 yX3_rootOf wsX3_rootOf) := goodIn_app (goodIn_of _ (by decide +kernel)) ggX8_root_X3_rootOf
theorem dX8_root_0 : decode cX8_root 0 = .ok (.aload_n 0, 1) := by decide +kernel
theorem dX8_root_1 : decode cX8_root 1 = .ok (.getfield 27, 3) := by decide +kernel
theorem dX8_root_4 : decode cX8_root 4 = .ok (.iload_n 1, 1) := by decide +kernel
theorem dX8_root_5 : decode cX8_root 5 = .ok (.invokevirtual 71, 3) := by decide +kernel
theorem dX8_root_8 : decode cX8_root 8 = .ok (.ifCond .ne 13, 3) := by decide +kernel
theorem dX8_root_11 : decode cX8_root 11 = .ok (.new 59, 3) := by decide +kernel
theorem dX8_root_14 : decode cX8_root 14 = .ok (.dup, 1) := by decide +kernel
theorem dX8_root_15 : decode cX8_root 15 = .ok (.ldc 80, 2) := by decide +kernel
theorem dX8_root_17 : decode cX8_root 17 = .ok (.invokespecial 63, 3) := by decide +kernel
theorem dX8_root_20 : decode cX8_root 20 = .ok (.athrow, 1) := by decide +kernel
theorem dX8_root_21 : decode cX8_root 21 = .ok (.aload_n 0, 1) := by decide +kernel
theorem dX8_root_22 : decode cX8_root 22 = .ok (.getfield 27, 3) := by decide +kernel
theorem dX8_root_25 : decode cX8_root 25 = .ok (.iload_n 1, 1) := by decide +kernel
theorem dX8_root_26 : decode cX8_root 26 = .ok (.invokevirtual 82, 3) := by decide +kernel
theorem dX8_root_29 : decode cX8_root 29 = .ok (.ireturn, 1) := by decide +kernel
set_option maxRecDepth 20000 in
theorem ggX8_count_X6_freePoints : GoodIn wsX8_count wsX6_freePoints := goodIn_r _ [13, 14, 15, 16, 17, 18, 12, 19, 20, 21, 36, 37, 38, 42, 43, 44, 45, 46, 47, 48, 49, 50, 51, 52, 53, 54] (by decide +kernel) (by decide +kernel)
set_option maxRecDepth 20000 in
theorem gX8_count_X6_freePoints : GoodIn wsX8_count (wsV RX8 88 RX6 yX6_freePoints wsX6_freePoints) := goodIn_app (goodIn_of _ (by decide +kernel)) ggX8_count_X6_freePoints
set_option maxRecDepth 20000 in
theorem ggX8_count_X6_lackingOnes : GoodIn wsX8_count wsX6_lackingOnes := goodIn_r _ [25, 14, 26, 16, 17, 18, 12, 19, 20, 21, 36, 37, 38, 42, 43, 44, 45, 46, 47, 48, 49, 50, 51, 52, 53, 54] (by decide +kernel) (by decide +kernel)
set_option maxRecDepth 20000 in
theorem gX8_count_X6_lackingOnes : GoodIn wsX8_count (wsV RX8 92 RX6 yX6_lackingOnes wsX6_lackingOnes) := goodIn_app (goodIn_of _ (by decide +kernel)) ggX8_count_X6_lackingOnes
theorem dX8_count_0 : decode cX8_count 0 = .ok (.iload_n 1, 1) := by decide +kernel
theorem dX8_count_1 : decode cX8_count 1 = .ok (.tableswitch 75 0 4 #[35, 43, 51, 59, 67], 35) := by decide +kernel
theorem dX8_count_36 : decode cX8_count 36 = .ok (.aload_n 0, 1) := by decide +kernel
theorem dX8_count_37 : decode cX8_count 37 = .ok (.getfield 27, 3) := by decide +kernel
theorem dX8_count_40 : decode cX8_count 40 = .ok (.getfield 85, 3) := by decide +kernel
theorem dX8_count_43 : decode cX8_count 43 = .ok (.ireturn, 1) := by decide +kernel
theorem dX8_count_44 : decode cX8_count 44 = .ok (.aload_n 0, 1) := by decide +kernel
theorem dX8_count_45 : decode cX8_count 45 = .ok (.getfield 31, 3) := by decide +kernel
theorem dX8_count_48 : decode cX8_count 48 = .ok (.getfield 66, 3) := by decide +kernel
theorem dX8_count_51 : decode cX8_count 51 = .ok (.ireturn, 1) := by decide +kernel
theorem dX8_count_52 : decode cX8_count 52 = .ok (.aload_n 0, 1) := by decide +kernel
theorem dX8_count_53 : decode cX8_count 53 = .ok (.getfield 38, 3) := by decide +kernel
theorem dX8_count_56 : decode cX8_count 56 = .ok (.getfield 70, 3) := by decide +kernel
theorem dX8_count_59 : decode cX8_count 59 = .ok (.ireturn, 1) := by decide +kernel
theorem dX8_count_60 : decode cX8_count 60 = .ok (.aload_n 0, 1) := by decide +kernel
theorem dX8_count_61 : decode cX8_count 61 = .ok (.getfield 31, 3) := by decide +kernel
theorem dX8_count_64 : decode cX8_count 64 = .ok (.invokevirtual 88, 3) := by decide +kernel
theorem dX8_count_67 : decode cX8_count 67 = .ok (.ireturn, 1) := by decide +kernel
theorem dX8_count_68 : decode cX8_count 68 = .ok (.aload_n 0, 1) := by decide +kernel
theorem dX8_count_69 : decode cX8_count 69 = .ok (.getfield 31, 3) := by decide +kernel
theorem dX8_count_72 : decode cX8_count 72 = .ok (.invokevirtual 92, 3) := by decide +kernel
theorem dX8_count_75 : decode cX8_count 75 = .ok (.ireturn, 1) := by decide +kernel
theorem dX8_count_76 : decode cX8_count 76 = .ok (.new 95, 3) := by decide +kernel
theorem dX8_count_79 : decode cX8_count 79 = .ok (.dup, 1) := by decide +kernel
theorem dX8_count_80 : decode cX8_count 80 = .ok (.ldc 97, 2) := by decide +kernel
theorem dX8_count_82 : decode cX8_count 82 = .ok (.invokespecial 99, 3) := by decide +kernel
theorem dX8_count_85 : decode cX8_count 85 = .ok (.athrow, 1) := by decide +kernel
set_option maxRecDepth 20000 in
theorem ggX8_point_X6_has : GoodIn wsX8_point wsX6_has := goodIn_r _ [15, 16, 173, 174, 175] (by decide +kernel) (by decide +kernel)
set_option maxRecDepth 20000 in
theorem gX8_point_X6_has : GoodIn wsX8_point (wsV RX8 100 RX6 yX6_has wsX6_has) := goodIn_app (goodIn_of _ (by decide +kernel)) ggX8_point_X6_has
set_option maxRecDepth 20000 in
theorem ggX8_point_X6_at : GoodIn wsX8_point wsX6_at := goodIn_r _ [20, 16, 21, 22, 173, 174, 175] (by decide +kernel) (by decide +kernel)
set_option maxRecDepth 20000 in
theorem gX8_point_X6_at : GoodIn wsX8_point (wsV RX8 103 RX6 yX6_at wsX6_at) := goodIn_app (goodIn_of _ (by decide +kernel)) ggX8_point_X6_at
set_option maxRecDepth 20000 in
theorem ggX8_point_X4_sort : GoodIn wsX8_point wsX4_sort := goodIn_r _ [27, 28, 176, 177, 178, 179, 180, 181, 182, 183, 184, 185, 186, 187, 188] (by decide +kernel) (by decide +kernel)
set_option maxRecDepth 20000 in
theorem gX8_point_X4_sort : GoodIn wsX8_point (wsV RX8 107 RX4 yX4_sort wsX4_sort) := goodIn_app (goodIn_of _ (by decide +kernel)) ggX8_point_X4_sort
set_option maxRecDepth 20000 in
theorem ggX8_point_X3_has : GoodIn wsX8_point wsX3_has := goodIn_r _ [33, 34, 189, 190, 191] (by decide +kernel) (by decide +kernel)
set_option maxRecDepth 20000 in
theorem gX8_point_X3_has : GoodIn wsX8_point (wsV RX8 71 RX3 yX3_has wsX3_has) := goodIn_app (goodIn_of _ (by decide +kernel)) ggX8_point_X3_has
set_option maxRecDepth 20000 in
theorem ggX8_point_X6_next : GoodIn wsX8_point wsX6_next := goodIn_r _ [38, 16, 21, 22, 39, 18, 19, 14, 20, 173, 174, 175] (by decide +kernel) (by decide +kernel)
set_option maxRecDepth 20000 in
theorem gX8_point_X6_next : GoodIn wsX8_point (wsV RX8 121 RX6 yX6_next wsX6_next) := goodIn_app (goodIn_of _ (by decide +kernel)) ggX8_point_X6_next
set_option maxRecDepth 20000 in
theorem ggX8_point_X4_become : GoodIn wsX8_point wsX4_become := goodIn_r _ [43, 28, 44, 45, 46, 176, 177, 178, 179, 180, 181, 182, 183, 184, 185, 186, 187, 188] (by decide +kernel) (by decide +kernel)
set_option maxRecDepth 20000 in
theorem gX8_point_X4_become : GoodIn wsX8_point (wsV RX8 125 RX4 yX4_become wsX4_become) := goodIn_app (goodIn_of _ (by decide +kernel)) ggX8_point_X4_become
set_option maxRecDepth 20000 in
theorem ggX8_point_X4_tell : GoodIn wsX8_point wsX4_tell := goodIn_r _ [50, 51, 52, 176, 177, 178, 179, 180, 181, 182, 183, 184, 185, 186, 187, 188] (by decide +kernel) (by decide +kernel)
set_option maxRecDepth 20000 in
theorem gX8_point_X4_tell : GoodIn wsX8_point (wsV RX8 129 RX4 yX4_tell wsX4_tell) := goodIn_app (goodIn_of _ (by decide +kernel)) ggX8_point_X4_tell
set_option maxRecDepth 20000 in
theorem ggX8_point_X8_remake : GoodIn wsX8_point wsX8_remake := goodIn_r _ [57, 7, 58, 59, 60, 61, 62, 17, 18, 19, 14, 20, 16, 21, 22, 63, 64, 65, 66, 67, 68, 69, 70, 71, 72, 73, 74, 75, 76, 77, 78, 79, 80, 81, 32, 82, 34, 83, 84, 85, 86, 87, 88, 89, 26, 90, 91, 92, 93, 94, 95, 96, 97, 98, 99, 100, 101, 102, 103, 104, 105, 106, 107, 108, 109, 110, 111, 112, 113, 114, 115, 116, 117, 118, 119, 120, 121, 122, 123, 124, 125, 126, 127, 128, 129, 130, 131, 132, 133, 134, 135, 136, 137, 138, 139, 140, 141, 142, 143, 144, 145, 146, 147, 148, 149, 150, 151, 152, 153, 154, 155, 156, 157, 158, 159, 160, 161, 162, 163, 164, 165, 166, 167, 168, 169, 170, 171, 172, 176, 177, 178, 179, 180, 181, 182, 183, 184, 185, 186, 187, 188, 173, 174, 175, 192, 193, 189, 190, 191] (by decide +kernel) (by decide +kernel)
set_option maxRecDepth 20000 in
theorem gX8_point_X8_remake : GoodIn wsX8_point (wsV RX8 133 RX8 yX8_remake wsX8_remake) := goodIn_app (goodIn_of _ (by decide +kernel)) ggX8_point_X8_remake
theorem dX8_point_0 : decode cX8_point 0 = .ok (.iload_n 1, 1) := by decide +kernel
theorem dX8_point_1 : decode cX8_point 1 = .ok (.iconst (-1), 1) := by decide +kernel
theorem dX8_point_2 : decode cX8_point 2 = .ok (.if_icmp .ne 7, 3) := by decide +kernel
theorem dX8_point_5 : decode cX8_point 5 = .ok (.iconst 1, 1) := by decide +kernel
theorem dX8_point_6 : decode cX8_point 6 = .ok (.goto 4, 3) := by decide +kernel
theorem dX8_point_9 : decode cX8_point 9 = .ok (.iconst 0, 1) := by decide +kernel
theorem dX8_point_10 : decode cX8_point 10 = .ok (.istore 4, 2) := by decide +kernel
theorem dX8_point_12 : decode cX8_point 12 = .ok (.iload 4, 2) := by decide +kernel
theorem dX8_point_14 : decode cX8_point 14 = .ok (.ifCond .ne 24, 3) := by decide +kernel
theorem dX8_point_17 : decode cX8_point 17 = .ok (.aload_n 0, 1) := by decide +kernel
theorem dX8_point_18 : decode cX8_point 18 = .ok (.getfield 31, 3) := by decide +kernel
theorem dX8_point_21 : decode cX8_point 21 = .ok (.iload_n 1, 1) := by decide +kernel
theorem dX8_point_22 : decode cX8_point 22 = .ok (.invokevirtual 100, 3) := by decide +kernel
theorem dX8_point_25 : decode cX8_point 25 = .ok (.ifCond .ne 13, 3) := by decide +kernel
theorem dX8_point_28 : decode cX8_point 28 = .ok (.new 95, 3) := by decide +kernel
theorem dX8_point_31 : decode cX8_point 31 = .ok (.dup, 1) := by decide +kernel
theorem dX8_point_32 : decode cX8_point 32 = .ok (.ldc 101, 2) := by decide +kernel
theorem dX8_point_34 : decode cX8_point 34 = .ok (.invokespecial 99, 3) := by decide +kernel
theorem dX8_point_37 : decode cX8_point 37 = .ok (.athrow, 1) := by decide +kernel
theorem dX8_point_38 : decode cX8_point 38 = .ok (.iload 4, 2) := by decide +kernel
theorem dX8_point_40 : decode cX8_point 40 = .ok (.ifCond .ne 28, 3) := by decide +kernel
theorem dX8_point_43 : decode cX8_point 43 = .ok (.aload_n 0, 1) := by decide +kernel
theorem dX8_point_44 : decode cX8_point 44 = .ok (.getfield 31, 3) := by decide +kernel
theorem dX8_point_47 : decode cX8_point 47 = .ok (.iload_n 1, 1) := by decide +kernel
theorem dX8_point_48 : decode cX8_point 48 = .ok (.invokevirtual 103, 3) := by decide +kernel
theorem dX8_point_51 : decode cX8_point 51 = .ok (.invokevirtual 107, 3) := by decide +kernel
theorem dX8_point_54 : decode cX8_point 54 = .ok (.iconst 1, 1) := by decide +kernel
theorem dX8_point_55 : decode cX8_point 55 = .ok (.if_icmp .eq 13, 3) := by decide +kernel
theorem dX8_point_58 : decode cX8_point 58 = .ok (.new 59, 3) := by decide +kernel
theorem dX8_point_61 : decode cX8_point 61 = .ok (.dup, 1) := by decide +kernel
theorem dX8_point_62 : decode cX8_point 62 = .ok (.ldc 112, 2) := by decide +kernel
theorem dX8_point_64 : decode cX8_point 64 = .ok (.invokespecial 63, 3) := by decide +kernel
theorem dX8_point_67 : decode cX8_point 67 = .ok (.athrow, 1) := by decide +kernel
theorem dX8_point_68 : decode cX8_point 68 = .ok (.aload_n 0, 1) := by decide +kernel
theorem dX8_point_69 : decode cX8_point 69 = .ok (.getfield 27, 3) := by decide +kernel
theorem dX8_point_72 : decode cX8_point 72 = .ok (.iload_n 2, 1) := by decide +kernel
theorem dX8_point_73 : decode cX8_point 73 = .ok (.invokevirtual 71, 3) := by decide +kernel
theorem dX8_point_76 : decode cX8_point 76 = .ok (.ifCond .eq 19, 3) := by decide +kernel
theorem dX8_point_79 : decode cX8_point 79 = .ok (.iload 4, 2) := by decide +kernel
theorem dX8_point_81 : decode cX8_point 81 = .ok (.ifCond .eq 24, 3) := by decide +kernel
theorem dX8_point_84 : decode cX8_point 84 = .ok (.aload_n 0, 1) := by decide +kernel
theorem dX8_point_85 : decode cX8_point 85 = .ok (.getfield 27, 3) := by decide +kernel
theorem dX8_point_88 : decode cX8_point 88 = .ok (.iload_n 3, 1) := by decide +kernel
theorem dX8_point_89 : decode cX8_point 89 = .ok (.invokevirtual 71, 3) := by decide +kernel
theorem dX8_point_92 : decode cX8_point 92 = .ok (.ifCond .ne 13, 3) := by decide +kernel
theorem dX8_point_95 : decode cX8_point 95 = .ok (.new 59, 3) := by decide +kernel
theorem dX8_point_98 : decode cX8_point 98 = .ok (.dup, 1) := by decide +kernel
theorem dX8_point_99 : decode cX8_point 99 = .ok (.ldc 114, 2) := by decide +kernel
theorem dX8_point_101 : decode cX8_point 101 = .ok (.invokespecial 63, 3) := by decide +kernel
theorem dX8_point_104 : decode cX8_point 104 = .ok (.athrow, 1) := by decide +kernel
theorem dX8_point_105 : decode cX8_point 105 = .ok (.aload_n 0, 1) := by decide +kernel
theorem dX8_point_106 : decode cX8_point 106 = .ok (.getfield 31, 3) := by decide +kernel
theorem dX8_point_109 : decode cX8_point 109 = .ok (.getfield 66, 3) := by decide +kernel
theorem dX8_point_112 : decode cX8_point 112 = .ok (.bipush 40, 2) := by decide +kernel
theorem dX8_point_114 : decode cX8_point 114 = .ok (.if_icmp .lt 13, 3) := by decide +kernel
theorem dX8_point_117 : decode cX8_point 117 = .ok (.new 116, 3) := by decide +kernel
theorem dX8_point_120 : decode cX8_point 120 = .ok (.dup, 1) := by decide +kernel
theorem dX8_point_121 : decode cX8_point 121 = .ok (.ldc 118, 2) := by decide +kernel
theorem dX8_point_123 : decode cX8_point 123 = .ok (.invokespecial 120, 3) := by decide +kernel
theorem dX8_point_126 : decode cX8_point 126 = .ok (.athrow, 1) := by decide +kernel
theorem dX8_point_127 : decode cX8_point 127 = .ok (.aload_n 0, 1) := by decide +kernel
theorem dX8_point_128 : decode cX8_point 128 = .ok (.getfield 31, 3) := by decide +kernel
theorem dX8_point_131 : decode cX8_point 131 = .ok (.invokevirtual 121, 3) := by decide +kernel
theorem dX8_point_134 : decode cX8_point 134 = .ok (.astore 5, 2) := by decide +kernel
theorem dX8_point_136 : decode cX8_point 136 = .ok (.aload 5, 2) := by decide +kernel
theorem dX8_point_138 : decode cX8_point 138 = .ok (.iload 4, 2) := by decide +kernel
theorem dX8_point_140 : decode cX8_point 140 = .ok (.ifCond .eq 7, 3) := by decide +kernel
theorem dX8_point_143 : decode cX8_point 143 = .ok (.iconst 0, 1) := by decide +kernel
theorem dX8_point_144 : decode cX8_point 144 = .ok (.goto 4, 3) := by decide +kernel
theorem dX8_point_147 : decode cX8_point 147 = .ok (.iconst 1, 1) := by decide +kernel
theorem dX8_point_148 : decode cX8_point 148 = .ok (.iload_n 1, 1) := by decide +kernel
theorem dX8_point_149 : decode cX8_point 149 = .ok (.iconst (-1), 1) := by decide +kernel
theorem dX8_point_150 : decode cX8_point 150 = .ok (.iconst (-1), 1) := by decide +kernel
theorem dX8_point_151 : decode cX8_point 151 = .ok (.invokevirtual 125, 3) := by decide +kernel
theorem dX8_point_154 : decode cX8_point 154 = .ok (.aload 5, 2) := by decide +kernel
theorem dX8_point_156 : decode cX8_point 156 = .ok (.iload_n 2, 1) := by decide +kernel
theorem dX8_point_157 : decode cX8_point 157 = .ok (.iload_n 3, 1) := by decide +kernel
theorem dX8_point_158 : decode cX8_point 158 = .ok (.invokevirtual 129, 3) := by decide +kernel
theorem dX8_point_161 : decode cX8_point 161 = .ok (.aload_n 0, 1) := by decide +kernel
theorem dX8_point_162 : decode cX8_point 162 = .ok (.aload 5, 2) := by decide +kernel
theorem dX8_point_164 : decode cX8_point 164 = .ok (.invokevirtual 133, 3) := by decide +kernel
theorem dX8_point_167 : decode cX8_point 167 = .ok (.aload 5, 2) := by decide +kernel
theorem dX8_point_169 : decode cX8_point 169 = .ok (.getfield 137, 3) := by decide +kernel
theorem dX8_point_172 : decode cX8_point 172 = .ok (.ireturn, 1) := by decide +kernel
set_option maxRecDepth 20000 in
theorem ggX8_make_X8_isWayToMake : GoodIn wsX8_make wsX8_isWayToMake := goodIn_r _ [14, 7, 15, 16, 13, 17] (by decide +kernel) (by decide +kernel)
set_option maxRecDepth 20000 in
theorem gX8_make_X8_isWayToMake : GoodIn wsX8_make (va_wsS RX8 140 yX8_isWayToMake wsX8_isWayToMake) := goodIn_app (goodIn_of _ (by decide +kernel)) ggX8_make_X8_isWayToMake
set_option maxRecDepth 20000 in
theorem ggX8_make_X8_entry : GoodIn wsX8_make wsX8_entry := goodIn_r _ [17] (by decide +kernel) (by decide +kernel)
set_option maxRecDepth 20000 in
theorem gX8_make_X8_entry : GoodIn wsX8_make (va_wsS RX8 149 yX8_entry wsX8_entry) := goodIn_app (goodIn_of _ (by decide +kernel)) ggX8_make_X8_entry
set_option maxRecDepth 20000 in
theorem ggX8_make_X8_isThere : GoodIn wsX8_make wsX8_isThere := goodIn_r _ [21, 8, 22, 23, 24, 25, 26, 27, 171, 172, 173, 174, 175, 176, 177, 178, 179] (by decide +kernel) (by decide +kernel)
set_option maxRecDepth 20000 in
theorem gX8_make_X8_isThere : GoodIn wsX8_make (wsV RX8 153 RX8 yX8_isThere wsX8_isThere) := goodIn_app (goodIn_of _ (by decide +kernel)) ggX8_make_X8_isThere
set_option maxRecDepth 20000 in
theorem ggX8_make_X8_fits : GoodIn wsX8_make wsX8_fits := goodIn_r _ [31, 8, 32, 33, 34, 25, 35, 27, 36, 37, 38, 39, 40, 41, 42, 43, 171, 172, 173, 174, 175, 176, 177, 178, 179, 180, 181, 182, 183, 184, 185, 186, 187, 188, 189, 190, 191, 192] (by decide +kernel) (by decide +kernel)
set_option maxRecDepth 20000 in
theorem gX8_make_X8_fits : GoodIn wsX8_make (wsV RX8 159 RX8 yX8_fits wsX8_fits) := goodIn_app (goodIn_of _ (by decide +kernel)) ggX8_make_X8_fits
set_option maxRecDepth 20000 in
theorem ggX8_make_X6_next : GoodIn wsX8_make wsX6_next := goodIn_r _ [47, 27, 36, 37, 48, 33, 34, 25, 35, 177, 178, 179] (by decide +kernel) (by decide +kernel)
set_option maxRecDepth 20000 in
theorem gX8_make_X6_next : GoodIn wsX8_make (wsV RX8 121 RX6 yX6_next wsX6_next) := goodIn_app (goodIn_of _ (by decide +kernel)) ggX8_make_X6_next
set_option maxRecDepth 20000 in
theorem ggX8_make_X4_become : GoodIn wsX8_make wsX4_become := goodIn_r _ [52, 43, 53, 54, 55, 180, 181, 182, 183, 184, 185, 186, 187, 188, 189, 190, 191, 192] (by decide +kernel) (by decide +kernel)
set_option maxRecDepth 20000 in
theorem gX8_make_X4_become : GoodIn wsX8_make (wsV RX8 125 RX4 yX4_become wsX4_become) := goodIn_app (goodIn_of _ (by decide +kernel)) ggX8_make_X4_become
set_option maxRecDepth 20000 in
theorem ggX8_make_X8_remake : GoodIn wsX8_make wsX8_remake := goodIn_r _ [59, 8, 60, 61, 62, 63, 64, 32, 33, 34, 25, 35, 27, 36, 37, 65, 66, 67, 68, 69, 70, 71, 72, 73, 74, 75, 76, 77, 78, 79, 80, 81, 82, 83, 84, 85, 86, 87, 88, 89, 90, 91, 92, 93, 41, 94, 95, 96, 97, 98, 99, 100, 101, 102, 103, 104, 105, 106, 107, 108, 109, 110, 111, 112, 113, 114, 115, 116, 117, 118, 119, 120, 121, 122, 123, 124, 125, 126, 127, 128, 129, 130, 131, 132, 133, 134, 135, 136, 137, 138, 139, 140, 141, 142, 143, 144, 145, 146, 147, 148, 149, 150, 151, 152, 153, 154, 155, 156, 157, 158, 159, 160, 161, 162, 163, 164, 165, 166, 167, 168, 169, 170, 171, 172, 173, 174, 175, 176, 180, 181, 182, 183, 184, 185, 186, 187, 188, 189, 190, 191, 192, 177, 178, 179, 193, 194, 195, 196, 197] (by decide +kernel) (by decide +kernel)
set_option maxRecDepth 20000 in
theorem gX8_make_X8_remake : GoodIn wsX8_make (wsV RX8 133 RX8 yX8_remake wsX8_remake) := goodIn_app (goodIn_of _ (by decide +kernel)) ggX8_make_X8_remake
theorem dX8_make_0 : decode cX8_make 0 = .ok (.iload_n 1, 1) := by decide +kernel
theorem dX8_make_1 : decode cX8_make 1 = .ok (.invokestatic 140, 3) := by decide +kernel
theorem dX8_make_4 : decode cX8_make 4 = .ok (.ifCond .ne 13, 3) := by decide +kernel
theorem dX8_make_7 : decode cX8_make 7 = .ok (.new 59, 3) := by decide +kernel
theorem dX8_make_10 : decode cX8_make 10 = .ok (.dup, 1) := by decide +kernel
theorem dX8_make_11 : decode cX8_make 11 = .ok (.ldc 143, 2) := by decide +kernel
theorem dX8_make_13 : decode cX8_make 13 = .ok (.invokespecial 63, 3) := by decide +kernel
theorem dX8_make_16 : decode cX8_make 16 = .ok (.athrow, 1) := by decide +kernel
theorem dX8_make_17 : decode cX8_make 17 = .ok (.getstatic 145, 3) := by decide +kernel
theorem dX8_make_20 : decode cX8_make 20 = .ok (.iconst 3, 1) := by decide +kernel
theorem dX8_make_21 : decode cX8_make 21 = .ok (.iload_n 1, 1) := by decide +kernel
theorem dX8_make_22 : decode cX8_make 22 = .ok (.imul, 1) := by decide +kernel
theorem dX8_make_23 : decode cX8_make 23 = .ok (.invokestatic 149, 3) := by decide +kernel
theorem dX8_make_26 : decode cX8_make 26 = .ok (.istore 5, 2) := by decide +kernel
theorem dX8_make_28 : decode cX8_make 28 = .ok (.getstatic 145, 3) := by decide +kernel
theorem dX8_make_31 : decode cX8_make 31 = .ok (.iconst 3, 1) := by decide +kernel
theorem dX8_make_32 : decode cX8_make 32 = .ok (.iload_n 1, 1) := by decide +kernel
theorem dX8_make_33 : decode cX8_make 33 = .ok (.imul, 1) := by decide +kernel
theorem dX8_make_34 : decode cX8_make 34 = .ok (.iconst 1, 1) := by decide +kernel
theorem dX8_make_35 : decode cX8_make 35 = .ok (.iadd, 1) := by decide +kernel
theorem dX8_make_36 : decode cX8_make 36 = .ok (.invokestatic 149, 3) := by decide +kernel
theorem dX8_make_39 : decode cX8_make 39 = .ok (.istore 6, 2) := by decide +kernel
theorem dX8_make_41 : decode cX8_make 41 = .ok (.getstatic 145, 3) := by decide +kernel
theorem dX8_make_44 : decode cX8_make 44 = .ok (.iconst 3, 1) := by decide +kernel
theorem dX8_make_45 : decode cX8_make 45 = .ok (.iload_n 1, 1) := by decide +kernel
theorem dX8_make_46 : decode cX8_make 46 = .ok (.imul, 1) := by decide +kernel
theorem dX8_make_47 : decode cX8_make 47 = .ok (.iconst 2, 1) := by decide +kernel
theorem dX8_make_48 : decode cX8_make 48 = .ok (.iadd, 1) := by decide +kernel
theorem dX8_make_49 : decode cX8_make 49 = .ok (.invokestatic 149, 3) := by decide +kernel
theorem dX8_make_52 : decode cX8_make 52 = .ok (.istore 7, 2) := by decide +kernel
theorem dX8_make_54 : decode cX8_make 54 = .ok (.aload_n 0, 1) := by decide +kernel
theorem dX8_make_55 : decode cX8_make 55 = .ok (.iload_n 2, 1) := by decide +kernel
theorem dX8_make_56 : decode cX8_make 56 = .ok (.iload 5, 2) := by decide +kernel
theorem dX8_make_58 : decode cX8_make 58 = .ok (.invokevirtual 153, 3) := by decide +kernel
theorem dX8_make_61 : decode cX8_make 61 = .ok (.ifCond .eq 24, 3) := by decide +kernel
theorem dX8_make_64 : decode cX8_make 64 = .ok (.aload_n 0, 1) := by decide +kernel
theorem dX8_make_65 : decode cX8_make 65 = .ok (.iload_n 3, 1) := by decide +kernel
theorem dX8_make_66 : decode cX8_make 66 = .ok (.iload 6, 2) := by decide +kernel
theorem dX8_make_68 : decode cX8_make 68 = .ok (.invokevirtual 153, 3) := by decide +kernel
theorem dX8_make_71 : decode cX8_make 71 = .ok (.ifCond .eq 14, 3) := by decide +kernel
theorem dX8_make_74 : decode cX8_make 74 = .ok (.aload_n 0, 1) := by decide +kernel
theorem dX8_make_75 : decode cX8_make 75 = .ok (.iload 4, 2) := by decide +kernel
theorem dX8_make_77 : decode cX8_make 77 = .ok (.iload 7, 2) := by decide +kernel
theorem dX8_make_79 : decode cX8_make 79 = .ok (.invokevirtual 153, 3) := by decide +kernel
theorem dX8_make_82 : decode cX8_make 82 = .ok (.ifCond .ne 13, 3) := by decide +kernel
theorem dX8_make_85 : decode cX8_make 85 = .ok (.new 95, 3) := by decide +kernel
theorem dX8_make_88 : decode cX8_make 88 = .ok (.dup, 1) := by decide +kernel
theorem dX8_make_89 : decode cX8_make 89 = .ok (.ldc 157, 2) := by decide +kernel
theorem dX8_make_91 : decode cX8_make 91 = .ok (.invokespecial 99, 3) := by decide +kernel
theorem dX8_make_94 : decode cX8_make 94 = .ok (.athrow, 1) := by decide +kernel
theorem dX8_make_95 : decode cX8_make 95 = .ok (.aload_n 0, 1) := by decide +kernel
theorem dX8_make_96 : decode cX8_make 96 = .ok (.iload_n 2, 1) := by decide +kernel
theorem dX8_make_97 : decode cX8_make 97 = .ok (.iload 5, 2) := by decide +kernel
theorem dX8_make_99 : decode cX8_make 99 = .ok (.invokevirtual 159, 3) := by decide +kernel
theorem dX8_make_102 : decode cX8_make 102 = .ok (.ifCond .eq 24, 3) := by decide +kernel
theorem dX8_make_105 : decode cX8_make 105 = .ok (.aload_n 0, 1) := by decide +kernel
theorem dX8_make_106 : decode cX8_make 106 = .ok (.iload_n 3, 1) := by decide +kernel
theorem dX8_make_107 : decode cX8_make 107 = .ok (.iload 6, 2) := by decide +kernel
theorem dX8_make_109 : decode cX8_make 109 = .ok (.invokevirtual 159, 3) := by decide +kernel
theorem dX8_make_112 : decode cX8_make 112 = .ok (.ifCond .eq 14, 3) := by decide +kernel
theorem dX8_make_115 : decode cX8_make 115 = .ok (.aload_n 0, 1) := by decide +kernel
theorem dX8_make_116 : decode cX8_make 116 = .ok (.iload 4, 2) := by decide +kernel
theorem dX8_make_118 : decode cX8_make 118 = .ok (.iload 7, 2) := by decide +kernel
theorem dX8_make_120 : decode cX8_make 120 = .ok (.invokevirtual 159, 3) := by decide +kernel
theorem dX8_make_123 : decode cX8_make 123 = .ok (.ifCond .ne 13, 3) := by decide +kernel
theorem dX8_make_126 : decode cX8_make 126 = .ok (.new 116, 3) := by decide +kernel
theorem dX8_make_129 : decode cX8_make 129 = .ok (.dup, 1) := by decide +kernel
theorem dX8_make_130 : decode cX8_make 130 = .ok (.ldc 162, 2) := by decide +kernel
theorem dX8_make_132 : decode cX8_make 132 = .ok (.invokespecial 120, 3) := by decide +kernel
theorem dX8_make_135 : decode cX8_make 135 = .ok (.athrow, 1) := by decide +kernel
theorem dX8_make_136 : decode cX8_make 136 = .ok (.aload_n 0, 1) := by decide +kernel
theorem dX8_make_137 : decode cX8_make 137 = .ok (.getfield 31, 3) := by decide +kernel
theorem dX8_make_140 : decode cX8_make 140 = .ok (.getfield 66, 3) := by decide +kernel
theorem dX8_make_143 : decode cX8_make 143 = .ok (.bipush 40, 2) := by decide +kernel
theorem dX8_make_145 : decode cX8_make 145 = .ok (.if_icmp .lt 13, 3) := by decide +kernel
theorem dX8_make_148 : decode cX8_make 148 = .ok (.new 116, 3) := by decide +kernel
theorem dX8_make_151 : decode cX8_make 151 = .ok (.dup, 1) := by decide +kernel
theorem dX8_make_152 : decode cX8_make 152 = .ok (.ldc 118, 2) := by decide +kernel
theorem dX8_make_154 : decode cX8_make 154 = .ok (.invokespecial 120, 3) := by decide +kernel
theorem dX8_make_157 : decode cX8_make 157 = .ok (.athrow, 1) := by decide +kernel
theorem dX8_make_158 : decode cX8_make 158 = .ok (.aload_n 0, 1) := by decide +kernel
theorem dX8_make_159 : decode cX8_make 159 = .ok (.getfield 31, 3) := by decide +kernel
theorem dX8_make_162 : decode cX8_make 162 = .ok (.invokevirtual 121, 3) := by decide +kernel
theorem dX8_make_165 : decode cX8_make 165 = .ok (.astore 8, 2) := by decide +kernel
theorem dX8_make_167 : decode cX8_make 167 = .ok (.aload 8, 2) := by decide +kernel
theorem dX8_make_169 : decode cX8_make 169 = .ok (.iload_n 1, 1) := by decide +kernel
theorem dX8_make_170 : decode cX8_make 170 = .ok (.iload_n 2, 1) := by decide +kernel
theorem dX8_make_171 : decode cX8_make 171 = .ok (.iload_n 3, 1) := by decide +kernel
theorem dX8_make_172 : decode cX8_make 172 = .ok (.iload 7, 2) := by decide +kernel
theorem dX8_make_174 : decode cX8_make 174 = .ok (.iconst (-1), 1) := by decide +kernel
theorem dX8_make_175 : decode cX8_make 175 = .ok (.if_icmp .ne 7, 3) := by decide +kernel
theorem dX8_make_178 : decode cX8_make 178 = .ok (.iconst (-1), 1) := by decide +kernel
theorem dX8_make_179 : decode cX8_make 179 = .ok (.goto 5, 3) := by decide +kernel
theorem dX8_make_182 : decode cX8_make 182 = .ok (.iload 4, 2) := by decide +kernel
theorem dX8_make_184 : decode cX8_make 184 = .ok (.invokevirtual 125, 3) := by decide +kernel
theorem dX8_make_187 : decode cX8_make 187 = .ok (.aload_n 0, 1) := by decide +kernel
theorem dX8_make_188 : decode cX8_make 188 = .ok (.aload 8, 2) := by decide +kernel
theorem dX8_make_190 : decode cX8_make 190 = .ok (.invokevirtual 133, 3) := by decide +kernel
theorem dX8_make_193 : decode cX8_make 193 = .ok (.aload 8, 2) := by decide +kernel
theorem dX8_make_195 : decode cX8_make 195 = .ok (.getfield 137, 3) := by decide +kernel
theorem dX8_make_198 : decode cX8_make 198 = .ok (.ireturn, 1) := by decide +kernel
set_option maxRecDepth 20000 in
theorem ggX8_move_X6_has : GoodIn wsX8_move wsX6_has := goodIn_r _ [14, 15, 200, 201, 202] (by decide +kernel) (by decide +kernel)
set_option maxRecDepth 20000 in
theorem gX8_move_X6_has : GoodIn wsX8_move (wsV RX8 100 RX6 yX6_has wsX6_has) := goodIn_app (goodIn_of _ (by decide +kernel)) ggX8_move_X6_has
set_option maxRecDepth 20000 in
theorem ggX8_move_X6_at : GoodIn wsX8_move wsX6_at := goodIn_r _ [19, 15, 20, 21, 200, 201, 202] (by decide +kernel) (by decide +kernel)
set_option maxRecDepth 20000 in
theorem gX8_move_X6_at : GoodIn wsX8_move (wsV RX8 103 RX6 yX6_at wsX6_at) := goodIn_app (goodIn_of _ (by decide +kernel)) ggX8_move_X6_at
set_option maxRecDepth 20000 in
theorem ggX8_move_X3_has : GoodIn wsX8_move wsX3_has := goodIn_r _ [26, 27, 203, 204, 205] (by decide +kernel) (by decide +kernel)
set_option maxRecDepth 20000 in
theorem gX8_move_X3_has : GoodIn wsX8_move (wsV RX8 71 RX3 yX3_has wsX3_has) := goodIn_app (goodIn_of _ (by decide +kernel)) ggX8_move_X3_has
set_option maxRecDepth 20000 in
theorem ggX8_move_X6_markFollowers : GoodIn wsX8_move wsX6_markFollowers := goodIn_r _ [31, 15, 32, 33, 34, 35, 36, 37, 17, 18, 13, 19, 20, 21, 200, 201, 202, 187, 188, 189, 190, 191, 192, 193, 194, 195, 196, 197, 198, 199] (by decide +kernel) (by decide +kernel)
set_option maxRecDepth 20000 in
theorem gX8_move_X6_markFollowers : GoodIn wsX8_move (wsV RX8 171 RX6 yX6_markFollowers wsX6_markFollowers) := goodIn_app (goodIn_of _ (by decide +kernel)) ggX8_move_X6_markFollowers
set_option maxRecDepth 20000 in
theorem ggX8_move_X6_wantAll : GoodIn wsX8_move wsX6_wantAll := goodIn_r _ [41, 42, 43, 44, 13, 45, 15, 46, 37, 17, 18, 19, 20, 21, 200, 201, 202, 187, 188, 189, 190, 191, 192, 193, 194, 195, 196, 197, 198, 199] (by decide +kernel) (by decide +kernel)
set_option maxRecDepth 20000 in
theorem gX8_move_X6_wantAll : GoodIn wsX8_move (wsV RX8 174 RX6 yX6_wantAll wsX6_wantAll) := goodIn_app (goodIn_of _ (by decide +kernel)) ggX8_move_X6_wantAll
set_option maxRecDepth 20000 in
theorem ggX8_move_X8_shift : GoodIn wsX8_move wsX8_shift := goodIn_r _ [51, 52, 7, 53, 54, 55, 56, 57, 58, 59, 60, 61, 62, 16, 17, 18, 13, 19, 15, 20, 21, 63, 64, 65, 50, 66, 67, 68, 69, 70, 71, 72, 73, 74, 75, 76, 77, 78, 79, 80, 81, 82, 83, 84, 85, 86, 87, 88, 89, 90, 25, 91, 27, 92, 93, 94, 95, 96, 97, 98, 99, 100, 101, 102, 103, 104, 105, 106, 107, 108, 109, 110, 111, 112, 113, 114, 115, 116, 117, 118, 119, 120, 121, 122, 123, 124, 125, 126, 127, 128, 129, 130, 131, 132, 133, 134, 135, 136, 137, 138, 139, 140, 141, 142, 143, 144, 145, 146, 147, 148, 149, 150, 151, 152, 153, 154, 155, 156, 157, 158, 159, 160, 161, 162, 163, 164, 165, 166, 167, 168, 169, 170, 171, 172, 173, 174, 175, 187, 188, 189, 190, 191, 192, 193, 194, 195, 196, 197, 198, 199, 181, 182, 183, 184, 185, 186, 200, 201, 202, 206, 207, 203, 204, 205] (by decide +kernel) (by decide +kernel)
set_option maxRecDepth 20000 in
theorem gX8_move_X8_shift : GoodIn wsX8_move (wsV RX8 177 RX8 yX8_shift wsX8_shift) := goodIn_app (goodIn_of _ (by decide +kernel)) ggX8_move_X8_shift
set_option maxRecDepth 20000 in
theorem ggX8_move_X6_lackingOnes : GoodIn wsX8_move wsX6_lackingOnes := goodIn_r _ [179, 15, 180, 37, 17, 18, 13, 19, 20, 21, 200, 201, 202, 187, 188, 189, 190, 191, 192, 193, 194, 195, 196, 197, 198, 199] (by decide +kernel) (by decide +kernel)
set_option maxRecDepth 20000 in
theorem gX8_move_X6_lackingOnes : GoodIn wsX8_move (wsV RX8 92 RX6 yX6_lackingOnes wsX6_lackingOnes) := goodIn_app (goodIn_of _ (by decide +kernel)) ggX8_move_X6_lackingOnes
theorem dX8_move_0 : decode cX8_move 0 = .ok (.aload_n 0, 1) := by decide +kernel
theorem dX8_move_1 : decode cX8_move 1 = .ok (.getfield 31, 3) := by decide +kernel
theorem dX8_move_4 : decode cX8_move 4 = .ok (.iload_n 1, 1) := by decide +kernel
theorem dX8_move_5 : decode cX8_move 5 = .ok (.invokevirtual 100, 3) := by decide +kernel
theorem dX8_move_8 : decode cX8_move 8 = .ok (.ifCond .ne 13, 3) := by decide +kernel
theorem dX8_move_11 : decode cX8_move 11 = .ok (.new 95, 3) := by decide +kernel
theorem dX8_move_14 : decode cX8_move 14 = .ok (.dup, 1) := by decide +kernel
theorem dX8_move_15 : decode cX8_move 15 = .ok (.ldc 164, 2) := by decide +kernel
theorem dX8_move_17 : decode cX8_move 17 = .ok (.invokespecial 99, 3) := by decide +kernel
theorem dX8_move_20 : decode cX8_move 20 = .ok (.athrow, 1) := by decide +kernel
theorem dX8_move_21 : decode cX8_move 21 = .ok (.aload_n 0, 1) := by decide +kernel
theorem dX8_move_22 : decode cX8_move 22 = .ok (.getfield 31, 3) := by decide +kernel
theorem dX8_move_25 : decode cX8_move 25 = .ok (.iload_n 1, 1) := by decide +kernel
theorem dX8_move_26 : decode cX8_move 26 = .ok (.invokevirtual 103, 3) := by decide +kernel
theorem dX8_move_29 : decode cX8_move 29 = .ok (.astore 4, 2) := by decide +kernel
theorem dX8_move_31 : decode cX8_move 31 = .ok (.aload_n 0, 1) := by decide +kernel
theorem dX8_move_32 : decode cX8_move 32 = .ok (.getfield 27, 3) := by decide +kernel
theorem dX8_move_35 : decode cX8_move 35 = .ok (.iload_n 2, 1) := by decide +kernel
theorem dX8_move_36 : decode cX8_move 36 = .ok (.invokevirtual 71, 3) := by decide +kernel
theorem dX8_move_39 : decode cX8_move 39 = .ok (.ifCond .eq 22, 3) := by decide +kernel
theorem dX8_move_42 : decode cX8_move 42 = .ok (.aload 4, 2) := by decide +kernel
theorem dX8_move_44 : decode cX8_move 44 = .ok (.getfield 166, 3) := by decide +kernel
theorem dX8_move_47 : decode cX8_move 47 = .ok (.ifCond .ne 24, 3) := by decide +kernel
theorem dX8_move_50 : decode cX8_move 50 = .ok (.aload_n 0, 1) := by decide +kernel
theorem dX8_move_51 : decode cX8_move 51 = .ok (.getfield 27, 3) := by decide +kernel
theorem dX8_move_54 : decode cX8_move 54 = .ok (.iload_n 3, 1) := by decide +kernel
theorem dX8_move_55 : decode cX8_move 55 = .ok (.invokevirtual 71, 3) := by decide +kernel
theorem dX8_move_58 : decode cX8_move 58 = .ok (.ifCond .ne 13, 3) := by decide +kernel
theorem dX8_move_61 : decode cX8_move 61 = .ok (.new 59, 3) := by decide +kernel
theorem dX8_move_64 : decode cX8_move 64 = .ok (.dup, 1) := by decide +kernel
theorem dX8_move_65 : decode cX8_move 65 = .ok (.ldc 114, 2) := by decide +kernel
theorem dX8_move_67 : decode cX8_move 67 = .ok (.invokespecial 63, 3) := by decide +kernel
theorem dX8_move_70 : decode cX8_move 70 = .ok (.athrow, 1) := by decide +kernel
theorem dX8_move_71 : decode cX8_move 71 = .ok (.aload 4, 2) := by decide +kernel
theorem dX8_move_73 : decode cX8_move 73 = .ok (.getfield 166, 3) := by decide +kernel
theorem dX8_move_76 : decode cX8_move 76 = .ok (.ifCond .eq 22, 3) := by decide +kernel
theorem dX8_move_79 : decode cX8_move 79 = .ok (.aload 4, 2) := by decide +kernel
theorem dX8_move_81 : decode cX8_move 81 = .ok (.getfield 166, 3) := by decide +kernel
theorem dX8_move_84 : decode cX8_move 84 = .ok (.iconst 1, 1) := by decide +kernel
theorem dX8_move_85 : decode cX8_move 85 = .ok (.if_icmp .eq 13, 3) := by decide +kernel
theorem dX8_move_88 : decode cX8_move 88 = .ok (.new 116, 3) := by decide +kernel
theorem dX8_move_91 : decode cX8_move 91 = .ok (.dup, 1) := by decide +kernel
theorem dX8_move_92 : decode cX8_move 92 = .ok (.ldc 169, 2) := by decide +kernel
theorem dX8_move_94 : decode cX8_move 94 = .ok (.invokespecial 120, 3) := by decide +kernel
theorem dX8_move_97 : decode cX8_move 97 = .ok (.athrow, 1) := by decide +kernel
theorem dX8_move_98 : decode cX8_move 98 = .ok (.aload_n 0, 1) := by decide +kernel
theorem dX8_move_99 : decode cX8_move 99 = .ok (.getfield 31, 3) := by decide +kernel
theorem dX8_move_102 : decode cX8_move 102 = .ok (.aload 4, 2) := by decide +kernel
theorem dX8_move_104 : decode cX8_move 104 = .ok (.invokevirtual 171, 3) := by decide +kernel
theorem dX8_move_107 : decode cX8_move 107 = .ok (.aload_n 0, 1) := by decide +kernel
theorem dX8_move_108 : decode cX8_move 108 = .ok (.getfield 31, 3) := by decide +kernel
theorem dX8_move_111 : decode cX8_move 111 = .ok (.invokevirtual 174, 3) := by decide +kernel
theorem dX8_move_114 : decode cX8_move 114 = .ok (.aload_n 0, 1) := by decide +kernel
theorem dX8_move_115 : decode cX8_move 115 = .ok (.aload 4, 2) := by decide +kernel
theorem dX8_move_117 : decode cX8_move 117 = .ok (.iload_n 2, 1) := by decide +kernel
theorem dX8_move_118 : decode cX8_move 118 = .ok (.iload_n 3, 1) := by decide +kernel
theorem dX8_move_119 : decode cX8_move 119 = .ok (.invokevirtual 177, 3) := by decide +kernel
theorem dX8_move_122 : decode cX8_move 122 = .ok (.aload_n 0, 1) := by decide +kernel
theorem dX8_move_123 : decode cX8_move 123 = .ok (.getfield 31, 3) := by decide +kernel
theorem dX8_move_126 : decode cX8_move 126 = .ok (.invokevirtual 92, 3) := by decide +kernel
theorem dX8_move_129 : decode cX8_move 129 = .ok (.ireturn, 1) := by decide +kernel
set_option maxRecDepth 20000 in
theorem ggX8_object_X6_has : GoodIn wsX8_object wsX6_has := goodIn_r _ [8, 9, 36, 37, 38] (by decide +kernel) (by decide +kernel)
set_option maxRecDepth 20000 in
theorem gX8_object_X6_has : GoodIn wsX8_object (wsV RX8 100 RX6 yX6_has wsX6_has) := goodIn_app (goodIn_of _ (by decide +kernel)) ggX8_object_X6_has
set_option maxRecDepth 20000 in
theorem ggX8_object_X6_at : GoodIn wsX8_object wsX6_at := goodIn_r _ [13, 9, 14, 15, 36, 37, 38] (by decide +kernel) (by decide +kernel)
set_option maxRecDepth 20000 in
theorem gX8_object_X6_at : GoodIn wsX8_object (wsV RX8 103 RX6 yX6_at wsX6_at) := goodIn_app (goodIn_of _ (by decide +kernel)) ggX8_object_X6_at
set_option maxRecDepth 20000 in
theorem ggX8_object_X4_feature : GoodIn wsX8_object wsX4_feature := goodIn_r _ [20, 21, 22, 23, 24, 25, 26, 27, 28, 19, 29, 39, 40, 41, 42, 43, 44, 45, 46, 47, 48, 49, 50, 51] (by decide +kernel) (by decide +kernel)
set_option maxRecDepth 20000 in
theorem gX8_object_X4_feature : GoodIn wsX8_object (wsV RX8 183 RX4 yX4_feature wsX4_feature) := goodIn_app (goodIn_of _ (by decide +kernel)) ggX8_object_X4_feature
theorem dX8_object_0 : decode cX8_object 0 = .ok (.aload_n 0, 1) := by decide +kernel
theorem dX8_object_1 : decode cX8_object 1 = .ok (.getfield 31, 3) := by decide +kernel
theorem dX8_object_4 : decode cX8_object 4 = .ok (.iload_n 1, 1) := by decide +kernel
theorem dX8_object_5 : decode cX8_object 5 = .ok (.invokevirtual 100, 3) := by decide +kernel
theorem dX8_object_8 : decode cX8_object 8 = .ok (.ifCond .eq 12, 3) := by decide +kernel
theorem dX8_object_11 : decode cX8_object 11 = .ok (.iload_n 2, 1) := by decide +kernel
theorem dX8_object_12 : decode cX8_object 12 = .ok (.ifCond .lt 8, 3) := by decide +kernel
theorem dX8_object_15 : decode cX8_object 15 = .ok (.iload_n 2, 1) := by decide +kernel
theorem dX8_object_16 : decode cX8_object 16 = .ok (.iconst 5, 1) := by decide +kernel
theorem dX8_object_17 : decode cX8_object 17 = .ok (.if_icmp .le 13, 3) := by decide +kernel
theorem dX8_object_20 : decode cX8_object 20 = .ok (.new 95, 3) := by decide +kernel
theorem dX8_object_23 : decode cX8_object 23 = .ok (.dup, 1) := by decide +kernel
theorem dX8_object_24 : decode cX8_object 24 = .ok (.ldc 181, 2) := by decide +kernel
theorem dX8_object_26 : decode cX8_object 26 = .ok (.invokespecial 99, 3) := by decide +kernel
theorem dX8_object_29 : decode cX8_object 29 = .ok (.athrow, 1) := by decide +kernel
theorem dX8_object_30 : decode cX8_object 30 = .ok (.aload_n 0, 1) := by decide +kernel
theorem dX8_object_31 : decode cX8_object 31 = .ok (.getfield 31, 3) := by decide +kernel
theorem dX8_object_34 : decode cX8_object 34 = .ok (.iload_n 1, 1) := by decide +kernel
theorem dX8_object_35 : decode cX8_object 35 = .ok (.invokevirtual 103, 3) := by decide +kernel
theorem dX8_object_38 : decode cX8_object 38 = .ok (.iload_n 2, 1) := by decide +kernel
theorem dX8_object_39 : decode cX8_object 39 = .ok (.invokevirtual 183, 3) := by decide +kernel
theorem dX8_object_42 : decode cX8_object 42 = .ok (.ireturn, 1) := by decide +kernel
set_option maxRecDepth 20000 in
theorem ggX8_number_X6_has : GoodIn wsX8_number wsX6_has := goodIn_r _ [14, 15, 41, 42, 43] (by decide +kernel) (by decide +kernel)
set_option maxRecDepth 20000 in
theorem gX8_number_X6_has : GoodIn wsX8_number (wsV RX8 100 RX6 yX6_has wsX6_has) := goodIn_app (goodIn_of _ (by decide +kernel)) ggX8_number_X6_has
set_option maxRecDepth 20000 in
theorem ggX8_number_X6_at : GoodIn wsX8_number wsX6_at := goodIn_r _ [19, 15, 20, 21, 41, 42, 43] (by decide +kernel) (by decide +kernel)
set_option maxRecDepth 20000 in
theorem gX8_number_X6_at : GoodIn wsX8_number (wsV RX8 103 RX6 yX6_at wsX6_at) := goodIn_app (goodIn_of _ (by decide +kernel)) ggX8_number_X6_at
theorem dX8_number_0 : decode cX8_number 0 = .ok (.aload_n 0, 1) := by decide +kernel
theorem dX8_number_1 : decode cX8_number 1 = .ok (.getfield 31, 3) := by decide +kernel
theorem dX8_number_4 : decode cX8_number 4 = .ok (.iload_n 1, 1) := by decide +kernel
theorem dX8_number_5 : decode cX8_number 5 = .ok (.invokevirtual 100, 3) := by decide +kernel
theorem dX8_number_8 : decode cX8_number 8 = .ok (.ifCond .eq 12, 3) := by decide +kernel
theorem dX8_number_11 : decode cX8_number 11 = .ok (.iload_n 2, 1) := by decide +kernel
theorem dX8_number_12 : decode cX8_number 12 = .ok (.ifCond .lt 8, 3) := by decide +kernel
theorem dX8_number_15 : decode cX8_number 15 = .ok (.iload_n 2, 1) := by decide +kernel
theorem dX8_number_16 : decode cX8_number 16 = .ok (.iconst 2, 1) := by decide +kernel
theorem dX8_number_17 : decode cX8_number 17 = .ok (.if_icmp .le 13, 3) := by decide +kernel
theorem dX8_number_20 : decode cX8_number 20 = .ok (.new 95, 3) := by decide +kernel
theorem dX8_number_23 : decode cX8_number 23 = .ok (.dup, 1) := by decide +kernel
theorem dX8_number_24 : decode cX8_number 24 = .ok (.ldc 186, 2) := by decide +kernel
theorem dX8_number_26 : decode cX8_number 26 = .ok (.invokespecial 99, 3) := by decide +kernel
theorem dX8_number_29 : decode cX8_number 29 = .ok (.athrow, 1) := by decide +kernel
theorem dX8_number_30 : decode cX8_number 30 = .ok (.aload_n 0, 1) := by decide +kernel
theorem dX8_number_31 : decode cX8_number 31 = .ok (.getfield 31, 3) := by decide +kernel
theorem dX8_number_34 : decode cX8_number 34 = .ok (.iload_n 1, 1) := by decide +kernel
theorem dX8_number_35 : decode cX8_number 35 = .ok (.invokevirtual 103, 3) := by decide +kernel
theorem dX8_number_38 : decode cX8_number 38 = .ok (.astore_n 3, 1) := by decide +kernel
theorem dX8_number_39 : decode cX8_number 39 = .ok (.aload_n 3, 1) := by decide +kernel
theorem dX8_number_40 : decode cX8_number 40 = .ok (.getfield 188, 3) := by decide +kernel
theorem dX8_number_43 : decode cX8_number 43 = .ok (.ifCond .eq 13, 3) := by decide +kernel
theorem dX8_number_46 : decode cX8_number 46 = .ok (.new 116, 3) := by decide +kernel
theorem dX8_number_49 : decode cX8_number 49 = .ok (.dup, 1) := by decide +kernel
theorem dX8_number_50 : decode cX8_number 50 = .ok (.ldc 192, 2) := by decide +kernel
theorem dX8_number_52 : decode cX8_number 52 = .ok (.invokespecial 120, 3) := by decide +kernel
theorem dX8_number_55 : decode cX8_number 55 = .ok (.athrow, 1) := by decide +kernel
theorem dX8_number_56 : decode cX8_number 56 = .ok (.iload_n 2, 1) := by decide +kernel
theorem dX8_number_57 : decode cX8_number 57 = .ok (.ifCond .ne 10, 3) := by decide +kernel
theorem dX8_number_60 : decode cX8_number 60 = .ok (.aload_n 3, 1) := by decide +kernel
theorem dX8_number_61 : decode cX8_number 61 = .ok (.getfield 194, 3) := by decide +kernel
theorem dX8_number_64 : decode cX8_number 64 = .ok (.goto 19, 3) := by decide +kernel
theorem dX8_number_67 : decode cX8_number 67 = .ok (.iload_n 2, 1) := by decide +kernel
theorem dX8_number_68 : decode cX8_number 68 = .ok (.iconst 1, 1) := by decide +kernel
theorem dX8_number_69 : decode cX8_number 69 = .ok (.if_icmp .ne 10, 3) := by decide +kernel
theorem dX8_number_72 : decode cX8_number 72 = .ok (.aload_n 3, 1) := by decide +kernel
theorem dX8_number_73 : decode cX8_number 73 = .ok (.getfield 197, 3) := by decide +kernel
theorem dX8_number_76 : decode cX8_number 76 = .ok (.goto 7, 3) := by decide +kernel
theorem dX8_number_79 : decode cX8_number 79 = .ok (.aload_n 3, 1) := by decide +kernel
theorem dX8_number_80 : decode cX8_number 80 = .ok (.getfield 200, 3) := by decide +kernel
theorem dX8_number_83 : decode cX8_number 83 = .ok (.ireturn, 1) := by decide +kernel
set_option maxRecDepth 20000 in
theorem ggX8_places_X6_has : GoodIn wsX8_places wsX6_has := goodIn_r _ [11, 12, 47, 48, 49] (by decide +kernel) (by decide +kernel)
set_option maxRecDepth 20000 in
theorem gX8_places_X6_has : GoodIn wsX8_places (wsV RX8 100 RX6 yX6_has wsX6_has) := goodIn_app (goodIn_of _ (by decide +kernel)) ggX8_places_X6_has
set_option maxRecDepth 20000 in
theorem ggX8_places_X6_at : GoodIn wsX8_places wsX6_at := goodIn_r _ [16, 12, 17, 18, 47, 48, 49] (by decide +kernel) (by decide +kernel)
set_option maxRecDepth 20000 in
theorem gX8_places_X6_at : GoodIn wsX8_places (wsV RX8 103 RX6 yX6_at wsX6_at) := goodIn_app (goodIn_of _ (by decide +kernel)) ggX8_places_X6_at
set_option maxRecDepth 20000 in
theorem ggX8_places_X4_sort : GoodIn wsX8_places wsX4_sort := goodIn_r _ [23, 24, 31, 32, 33, 34, 35, 36, 37, 38, 39, 40, 41, 42, 43] (by decide +kernel) (by decide +kernel)
set_option maxRecDepth 20000 in
theorem gX8_places_X4_sort : GoodIn wsX8_places (wsV RX8 107 RX4 yX4_sort wsX4_sort) := goodIn_app (goodIn_of _ (by decide +kernel)) ggX8_places_X4_sort
theorem dX8_places_0 : decode cX8_places 0 = .ok (.aload_n 0, 1) := by decide +kernel
theorem dX8_places_1 : decode cX8_places 1 = .ok (.getfield 31, 3) := by decide +kernel
theorem dX8_places_4 : decode cX8_places 4 = .ok (.iload_n 1, 1) := by decide +kernel
theorem dX8_places_5 : decode cX8_places 5 = .ok (.invokevirtual 100, 3) := by decide +kernel
theorem dX8_places_8 : decode cX8_places 8 = .ok (.ifCond .ne 13, 3) := by decide +kernel
theorem dX8_places_11 : decode cX8_places 11 = .ok (.new 95, 3) := by decide +kernel
theorem dX8_places_14 : decode cX8_places 14 = .ok (.dup, 1) := by decide +kernel
theorem dX8_places_15 : decode cX8_places 15 = .ok (.ldc 164, 2) := by decide +kernel
theorem dX8_places_17 : decode cX8_places 17 = .ok (.invokespecial 99, 3) := by decide +kernel
theorem dX8_places_20 : decode cX8_places 20 = .ok (.athrow, 1) := by decide +kernel
theorem dX8_places_21 : decode cX8_places 21 = .ok (.aload_n 0, 1) := by decide +kernel
theorem dX8_places_22 : decode cX8_places 22 = .ok (.getfield 31, 3) := by decide +kernel
theorem dX8_places_25 : decode cX8_places 25 = .ok (.iload_n 1, 1) := by decide +kernel
theorem dX8_places_26 : decode cX8_places 26 = .ok (.invokevirtual 103, 3) := by decide +kernel
theorem dX8_places_29 : decode cX8_places 29 = .ok (.astore_n 2, 1) := by decide +kernel
theorem dX8_places_30 : decode cX8_places 30 = .ok (.aload_n 2, 1) := by decide +kernel
theorem dX8_places_31 : decode cX8_places 31 = .ok (.getfield 188, 3) := by decide +kernel
theorem dX8_places_34 : decode cX8_places 34 = .ok (.ifCond .eq 5, 3) := by decide +kernel
theorem dX8_places_37 : decode cX8_places 37 = .ok (.iconst 0, 1) := by decide +kernel
theorem dX8_places_38 : decode cX8_places 38 = .ok (.ireturn, 1) := by decide +kernel
theorem dX8_places_39 : decode cX8_places 39 = .ok (.aload_n 2, 1) := by decide +kernel
theorem dX8_places_40 : decode cX8_places 40 = .ok (.invokevirtual 107, 3) := by decide +kernel
theorem dX8_places_43 : decode cX8_places 43 = .ok (.lookupswitch 35 #[(0, 25), (1, 27)], 25) := by decide +kernel
theorem dX8_places_68 : decode cX8_places 68 = .ok (.iconst 1, 1) := by decide +kernel
theorem dX8_places_69 : decode cX8_places 69 = .ok (.ireturn, 1) := by decide +kernel
theorem dX8_places_70 : decode cX8_places 70 = .ok (.aload_n 0, 1) := by decide +kernel
theorem dX8_places_71 : decode cX8_places 71 = .ok (.getfield 27, 3) := by decide +kernel
theorem dX8_places_74 : decode cX8_places 74 = .ok (.getfield 85, 3) := by decide +kernel
theorem dX8_places_77 : decode cX8_places 77 = .ok (.ireturn, 1) := by decide +kernel
theorem dX8_places_78 : decode cX8_places 78 = .ok (.aload_n 0, 1) := by decide +kernel
theorem dX8_places_79 : decode cX8_places 79 = .ok (.getfield 27, 3) := by decide +kernel
theorem dX8_places_82 : decode cX8_places 82 = .ok (.getfield 85, 3) := by decide +kernel
theorem dX8_places_85 : decode cX8_places 85 = .ok (.iconst 1, 1) := by decide +kernel
theorem dX8_places_86 : decode cX8_places 86 = .ok (.iadd, 1) := by decide +kernel
theorem dX8_places_87 : decode cX8_places 87 = .ok (.ireturn, 1) := by decide +kernel
set_option maxRecDepth 20000 in
theorem ggX8_square_X6_has : GoodIn wsX8_square wsX6_has := goodIn_r _ [12, 13, 63, 64, 65] (by decide +kernel) (by decide +kernel)
set_option maxRecDepth 20000 in
theorem gX8_square_X6_has : GoodIn wsX8_square (wsV RX8 100 RX6 yX6_has wsX6_has) := goodIn_app (goodIn_of _ (by decide +kernel)) ggX8_square_X6_has
set_option maxRecDepth 20000 in
theorem ggX8_square_X6_at : GoodIn wsX8_square wsX6_at := goodIn_r _ [17, 13, 18, 19, 63, 64, 65] (by decide +kernel) (by decide +kernel)
set_option maxRecDepth 20000 in
theorem gX8_square_X6_at : GoodIn wsX8_square (wsV RX8 103 RX6 yX6_at wsX6_at) := goodIn_app (goodIn_of _ (by decide +kernel)) ggX8_square_X6_at
set_option maxRecDepth 20000 in
theorem ggX8_square_X4_sort : GoodIn wsX8_square wsX4_sort := goodIn_r _ [24, 25, 50, 51, 52, 53, 54, 55, 56, 57, 58, 59, 60, 61, 62] (by decide +kernel) (by decide +kernel)
set_option maxRecDepth 20000 in
theorem gX8_square_X4_sort : GoodIn wsX8_square (wsV RX8 107 RX4 yX4_sort wsX4_sort) := goodIn_app (goodIn_of _ (by decide +kernel)) ggX8_square_X4_sort
set_option maxRecDepth 20000 in
theorem ggX8_square_X2_squareOf : GoodIn wsX8_square wsX2_squareOf := goodIn_r _ [30, 31, 32, 33, 34, 35, 36, 37, 38, 39, 40, 41, 42, 43, 50, 51, 52, 53, 54, 55, 56, 57, 58, 59, 60, 61, 62, 66, 67, 68, 69, 70] (by decide +kernel) (by decide +kernel)
set_option maxRecDepth 20000 in
theorem gX8_square_X2_squareOf : GoodIn wsX8_square (wsV RX8 205 RX2 yX2_squareOf wsX2_squareOf) := goodIn_app (goodIn_of _ (by decide +kernel)) ggX8_square_X2_squareOf
theorem dX8_square_0 : decode cX8_square 0 = .ok (.aload_n 0, 1) := by decide +kernel
theorem dX8_square_1 : decode cX8_square 1 = .ok (.getfield 31, 3) := by decide +kernel
theorem dX8_square_4 : decode cX8_square 4 = .ok (.iload_n 1, 1) := by decide +kernel
theorem dX8_square_5 : decode cX8_square 5 = .ok (.invokevirtual 100, 3) := by decide +kernel
theorem dX8_square_8 : decode cX8_square 8 = .ok (.ifCond .eq 14, 3) := by decide +kernel
theorem dX8_square_11 : decode cX8_square 11 = .ok (.aload_n 0, 1) := by decide +kernel
theorem dX8_square_12 : decode cX8_square 12 = .ok (.getfield 31, 3) := by decide +kernel
theorem dX8_square_15 : decode cX8_square 15 = .ok (.iload_n 2, 1) := by decide +kernel
theorem dX8_square_16 : decode cX8_square 16 = .ok (.invokevirtual 100, 3) := by decide +kernel
theorem dX8_square_19 : decode cX8_square 19 = .ok (.ifCond .ne 13, 3) := by decide +kernel
theorem dX8_square_22 : decode cX8_square 22 = .ok (.new 95, 3) := by decide +kernel
theorem dX8_square_25 : decode cX8_square 25 = .ok (.dup, 1) := by decide +kernel
theorem dX8_square_26 : decode cX8_square 26 = .ok (.ldc 164, 2) := by decide +kernel
theorem dX8_square_28 : decode cX8_square 28 = .ok (.invokespecial 99, 3) := by decide +kernel
theorem dX8_square_31 : decode cX8_square 31 = .ok (.athrow, 1) := by decide +kernel
theorem dX8_square_32 : decode cX8_square 32 = .ok (.aload_n 0, 1) := by decide +kernel
theorem dX8_square_33 : decode cX8_square 33 = .ok (.getfield 31, 3) := by decide +kernel
theorem dX8_square_36 : decode cX8_square 36 = .ok (.iload_n 1, 1) := by decide +kernel
theorem dX8_square_37 : decode cX8_square 37 = .ok (.invokevirtual 103, 3) := by decide +kernel
theorem dX8_square_40 : decode cX8_square 40 = .ok (.astore_n 3, 1) := by decide +kernel
theorem dX8_square_41 : decode cX8_square 41 = .ok (.aload_n 0, 1) := by decide +kernel
theorem dX8_square_42 : decode cX8_square 42 = .ok (.getfield 31, 3) := by decide +kernel
theorem dX8_square_45 : decode cX8_square 45 = .ok (.iload_n 2, 1) := by decide +kernel
theorem dX8_square_46 : decode cX8_square 46 = .ok (.invokevirtual 103, 3) := by decide +kernel
theorem dX8_square_49 : decode cX8_square 49 = .ok (.astore 4, 2) := by decide +kernel
theorem dX8_square_51 : decode cX8_square 51 = .ok (.aload_n 3, 1) := by decide +kernel
theorem dX8_square_52 : decode cX8_square 52 = .ok (.invokevirtual 107, 3) := by decide +kernel
theorem dX8_square_55 : decode cX8_square 55 = .ok (.ifCond .ne 26, 3) := by decide +kernel
theorem dX8_square_58 : decode cX8_square 58 = .ok (.aload 4, 2) := by decide +kernel
theorem dX8_square_60 : decode cX8_square 60 = .ok (.invokevirtual 107, 3) := by decide +kernel
theorem dX8_square_63 : decode cX8_square 63 = .ok (.ifCond .ne 18, 3) := by decide +kernel
theorem dX8_square_66 : decode cX8_square 66 = .ok (.aload_n 3, 1) := by decide +kernel
theorem dX8_square_67 : decode cX8_square 67 = .ok (.getfield 188, 3) := by decide +kernel
theorem dX8_square_70 : decode cX8_square 70 = .ok (.ifCond .ne 11, 3) := by decide +kernel
theorem dX8_square_73 : decode cX8_square 73 = .ok (.aload 4, 2) := by decide +kernel
theorem dX8_square_75 : decode cX8_square 75 = .ok (.getfield 188, 3) := by decide +kernel
theorem dX8_square_78 : decode cX8_square 78 = .ok (.ifCond .eq 13, 3) := by decide +kernel
theorem dX8_square_81 : decode cX8_square 81 = .ok (.new 116, 3) := by decide +kernel
theorem dX8_square_84 : decode cX8_square 84 = .ok (.dup, 1) := by decide +kernel
theorem dX8_square_85 : decode cX8_square 85 = .ok (.ldc 203, 2) := by decide +kernel
theorem dX8_square_87 : decode cX8_square 87 = .ok (.invokespecial 120, 3) := by decide +kernel
theorem dX8_square_90 : decode cX8_square 90 = .ok (.athrow, 1) := by decide +kernel
theorem dX8_square_91 : decode cX8_square 91 = .ok (.aload_n 0, 1) := by decide +kernel
theorem dX8_square_92 : decode cX8_square 92 = .ok (.getfield 20, 3) := by decide +kernel
