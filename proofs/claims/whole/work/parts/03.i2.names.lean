set_option maxRecDepth 20000 in
theorem ggX9_move_X9_get : GoodIn wsX9_move wsX9_get := goodIn_r _ [18, 19, 119, 120, 121, 122, 123, 124, 125, 126, 127, 128] rfl (by decide +kernel)
set_option maxRecDepth 20000 in
theorem gX9_move_X9_get : GoodIn wsX9_move (wsV RX9 39 RX9 yX9_get wsX9_get) := goodIn_app (goodIn_of _ (by decide +kernel)) ggX9_move_X9_get
set_option maxRecDepth 20000 in
theorem ggX9_move_X9_isPlace : GoodIn wsX9_move wsX9_isPlace := goodIn_r _ [23, 24, 8, 9, 5, 10, 119, 120, 121, 122, 123, 124, 125, 126, 127, 128] rfl (by decide +kernel)
set_option maxRecDepth 20000 in
theorem gX9_move_X9_isPlace : GoodIn wsX9_move (wsV RX9 136 RX9 yX9_isPlace wsX9_isPlace) := goodIn_app (goodIn_of _ (by decide +kernel)) ggX9_move_X9_isPlace
set_option maxRecDepth 20000 in
theorem ggX9_move_X9_place : GoodIn wsX9_move wsX9_place := goodIn_r _ [28, 19, 29, 30, 31, 5, 32, 7, 33, 15, 16, 17, 18, 34, 35, 36, 37, 38, 39, 40, 41, 42, 43, 44, 45, 46, 47, 48, 49, 24, 50, 51, 52, 53, 54, 55, 56, 57, 58, 59, 60, 61, 62, 63, 64, 65, 66, 67, 68, 69, 70, 71, 72, 73, 74, 75, 76, 77, 78, 79, 80, 81, 82, 83, 84, 85, 86, 87, 88, 89, 90, 91, 92, 93, 94, 95, 96, 97, 98, 99, 100, 101, 102, 103, 104, 105, 106, 107, 108, 109, 110, 111, 112, 113, 119, 120, 121, 122, 123, 124, 125, 126, 127, 128] rfl (by decide +kernel)
set_option maxRecDepth 20000 in
theorem gX9_move_X9_place : GoodIn wsX9_move (wsV RX9 151 RX9 yX9_place wsX9_place) := goodIn_app (goodIn_of _ (by decide +kernel)) ggX9_move_X9_place
set_option maxRecDepth 20000 in
theorem ggX9_move_X9_counted : GoodIn wsX9_move wsX9_counted := goodIn_r _ [117, 24, 7, 118, 15, 16, 17, 5, 18, 19, 119, 120, 121, 122, 123, 124, 125, 126, 127, 128] rfl (by decide +kernel)
set_option maxRecDepth 20000 in
theorem gX9_move_X9_counted : GoodIn wsX9_move (wsV RX9 118 RX9 yX9_counted wsX9_counted) := goodIn_app (goodIn_of _ (by decide +kernel)) ggX9_move_X9_counted
theorem dX9_move_0 : decode cX9_move 0 = .ok (.aload_n 0, 1) := by decide +kernel
theorem dX9_move_1 : decode cX9_move 1 = .ok (.iconst 0, 1) := by decide +kernel
theorem dX9_move_2 : decode cX9_move 2 = .ok (.putfield 29, 3) := by decide +kernel
theorem dX9_move_5 : decode cX9_move 5 = .ok (.aload_n 0, 1) := by decide +kernel
theorem dX9_move_6 : decode cX9_move 6 = .ok (.iload_n 1, 1) := by decide +kernel
theorem dX9_move_7 : decode cX9_move 7 = .ok (.invokevirtual 130, 3) := by decide +kernel
theorem dX9_move_10 : decode cX9_move 10 = .ok (.ifCond .ne 9, 3) := by decide +kernel
theorem dX9_move_13 : decode cX9_move 13 = .ok (.aload_n 0, 1) := by decide +kernel
theorem dX9_move_14 : decode cX9_move 14 = .ok (.iconst 1, 1) := by decide +kernel
theorem dX9_move_15 : decode cX9_move 15 = .ok (.invokevirtual 52, 3) := by decide +kernel
theorem dX9_move_18 : decode cX9_move 18 = .ok (.ireturn, 1) := by decide +kernel
theorem dX9_move_19 : decode cX9_move 19 = .ok (.aload_n 0, 1) := by decide +kernel
theorem dX9_move_20 : decode cX9_move 20 = .ok (.aload_n 0, 1) := by decide +kernel
theorem dX9_move_21 : decode cX9_move 21 = .ok (.iload_n 1, 1) := by decide +kernel
theorem dX9_move_22 : decode cX9_move 22 = .ok (.iconst 1, 1) := by decide +kernel
theorem dX9_move_23 : decode cX9_move 23 = .ok (.invokevirtual 39, 3) := by decide +kernel
theorem dX9_move_26 : decode cX9_move 26 = .ok (.ifCond .ne 7, 3) := by decide +kernel
theorem dX9_move_29 : decode cX9_move 29 = .ok (.iconst 1, 1) := by decide +kernel
theorem dX9_move_30 : decode cX9_move 30 = .ok (.goto 4, 3) := by decide +kernel
theorem dX9_move_33 : decode cX9_move 33 = .ok (.iconst 0, 1) := by decide +kernel
theorem dX9_move_34 : decode cX9_move 34 = .ok (.iload_n 2, 1) := by decide +kernel
theorem dX9_move_35 : decode cX9_move 35 = .ok (.iload_n 3, 1) := by decide +kernel
theorem dX9_move_36 : decode cX9_move 36 = .ok (.invokevirtual 136, 3) := by decide +kernel
theorem dX9_move_39 : decode cX9_move 39 = .ok (.ifCond .ne 9, 3) := by decide +kernel
theorem dX9_move_42 : decode cX9_move 42 = .ok (.aload_n 0, 1) := by decide +kernel
theorem dX9_move_43 : decode cX9_move 43 = .ok (.iconst 2, 1) := by decide +kernel
theorem dX9_move_44 : decode cX9_move 44 = .ok (.invokevirtual 52, 3) := by decide +kernel
theorem dX9_move_47 : decode cX9_move 47 = .ok (.ireturn, 1) := by decide +kernel
theorem dX9_move_48 : decode cX9_move 48 = .ok (.aload_n 0, 1) := by decide +kernel
theorem dX9_move_49 : decode cX9_move 49 = .ok (.iload_n 1, 1) := by decide +kernel
theorem dX9_move_50 : decode cX9_move 50 = .ok (.iconst 1, 1) := by decide +kernel
theorem dX9_move_51 : decode cX9_move 51 = .ok (.invokevirtual 39, 3) := by decide +kernel
theorem dX9_move_54 : decode cX9_move 54 = .ok (.iconst 1, 1) := by decide +kernel
theorem dX9_move_55 : decode cX9_move 55 = .ok (.if_icmp .le 9, 3) := by decide +kernel
theorem dX9_move_58 : decode cX9_move 58 = .ok (.aload_n 0, 1) := by decide +kernel
theorem dX9_move_59 : decode cX9_move 59 = .ok (.iconst 3, 1) := by decide +kernel
theorem dX9_move_60 : decode cX9_move 60 = .ok (.invokevirtual 52, 3) := by decide +kernel
theorem dX9_move_63 : decode cX9_move 63 = .ok (.ireturn, 1) := by decide +kernel
theorem dX9_move_64 : decode cX9_move 64 = .ok (.aload_n 0, 1) := by decide +kernel
theorem dX9_move_65 : decode cX9_move 65 = .ok (.iload_n 1, 1) := by decide +kernel
theorem dX9_move_66 : decode cX9_move 66 = .ok (.iload_n 2, 1) := by decide +kernel
theorem dX9_move_67 : decode cX9_move 67 = .ok (.iload_n 3, 1) := by decide +kernel
theorem dX9_move_68 : decode cX9_move 68 = .ok (.invokevirtual 151, 3) := by decide +kernel
theorem dX9_move_71 : decode cX9_move 71 = .ok (.aload_n 0, 1) := by decide +kernel
theorem dX9_move_72 : decode cX9_move 72 = .ok (.iconst 4, 1) := by decide +kernel
theorem dX9_move_73 : decode cX9_move 73 = .ok (.invokevirtual 118, 3) := by decide +kernel
theorem dX9_move_76 : decode cX9_move 76 = .ok (.ireturn, 1) := by decide +kernel
set_option maxRecDepth 20000 in
theorem ggX9_objectTold_X9_get : GoodIn wsX9_objectTold wsX9_get := goodIn_r _ [5, 6, 7, 8, 9, 10, 11, 12, 13, 14, 15, 16] rfl (by decide +kernel)
set_option maxRecDepth 20000 in
theorem gX9_objectTold_X9_get : GoodIn wsX9_objectTold (wsV RX9 39 RX9 yX9_get wsX9_get) := goodIn_app (goodIn_of _ (by decide +kernel)) ggX9_objectTold_X9_get
theorem dX9_objectTold_0 : decode cX9_objectTold 0 = .ok (.iload_n 2, 1) := by decide +kernel
theorem dX9_objectTold_1 : decode cX9_objectTold 1 = .ok (.iconst 5, 1) := by decide +kernel
theorem dX9_objectTold_2 : decode cX9_objectTold 2 = .ok (.if_icmp .ge 12, 3) := by decide +kernel
theorem dX9_objectTold_5 : decode cX9_objectTold 5 = .ok (.aload_n 0, 1) := by decide +kernel
theorem dX9_objectTold_6 : decode cX9_objectTold 6 = .ok (.iload_n 1, 1) := by decide +kernel
theorem dX9_objectTold_7 : decode cX9_objectTold 7 = .ok (.iload_n 2, 1) := by decide +kernel
theorem dX9_objectTold_8 : decode cX9_objectTold 8 = .ok (.invokevirtual 39, 3) := by decide +kernel
theorem dX9_objectTold_11 : decode cX9_objectTold 11 = .ok (.goto 10, 3) := by decide +kernel
theorem dX9_objectTold_14 : decode cX9_objectTold 14 = .ok (.aload_n 0, 1) := by decide +kernel
theorem dX9_objectTold_15 : decode cX9_objectTold 15 = .ok (.iload_n 1, 1) := by decide +kernel
theorem dX9_objectTold_16 : decode cX9_objectTold 16 = .ok (.bipush 7, 2) := by decide +kernel
theorem dX9_objectTold_18 : decode cX9_objectTold 18 = .ok (.invokevirtual 39, 3) := by decide +kernel
theorem dX9_objectTold_21 : decode cX9_objectTold 21 = .ok (.ireturn, 1) := by decide +kernel
set_option maxRecDepth 20000 in
theorem ggX9_object_X9_isObject : GoodIn wsX9_object wsX9_isObject := goodIn_r _ [6, 7, 8, 9, 5, 10, 24, 25, 26, 27, 28, 29, 30, 31, 32, 33] rfl (by decide +kernel)
set_option maxRecDepth 20000 in
theorem gX9_object_X9_isObject : GoodIn wsX9_object (wsV RX9 130 RX9 yX9_isObject wsX9_isObject) := goodIn_app (goodIn_of _ (by decide +kernel)) ggX9_object_X9_isObject
set_option maxRecDepth 20000 in
theorem ggX9_object_X9_isIn : GoodIn wsX9_object wsX9_isIn := goodIn_r _ [10] rfl (by decide +kernel)
set_option maxRecDepth 20000 in
theorem gX9_object_X9_isIn : GoodIn wsX9_object (va_wsS RX9 35 yX9_isIn wsX9_isIn) := goodIn_app (goodIn_of _ (by decide +kernel)) ggX9_object_X9_isIn
set_option maxRecDepth 20000 in
theorem ggX9_object_X9_objectTold : GoodIn wsX9_object wsX9_objectTold := goodIn_r _ [14, 15, 16, 17, 5, 18, 19, 24, 25, 26, 27, 28, 29, 30, 31, 32, 33] rfl (by decide +kernel)
set_option maxRecDepth 20000 in
theorem gX9_object_X9_objectTold : GoodIn wsX9_object (wsV RX9 155 RX9 yX9_objectTold wsX9_objectTold) := goodIn_app (goodIn_of _ (by decide +kernel)) ggX9_object_X9_objectTold
set_option maxRecDepth 20000 in
theorem ggX9_object_X9_fail : GoodIn wsX9_object wsX9_fail := goodIn_r _ [23, 1, 24, 25, 26, 27, 28, 29, 30, 31, 32, 33] rfl (by decide +kernel)
set_option maxRecDepth 20000 in
theorem gX9_object_X9_fail : GoodIn wsX9_object (wsV RX9 52 RX9 yX9_fail wsX9_fail) := goodIn_app (goodIn_of _ (by decide +kernel)) ggX9_object_X9_fail
theorem dX9_object_0 : decode cX9_object 0 = .ok (.aload_n 0, 1) := by decide +kernel
theorem dX9_object_1 : decode cX9_object 1 = .ok (.iconst 0, 1) := by decide +kernel
theorem dX9_object_2 : decode cX9_object 2 = .ok (.putfield 29, 3) := by decide +kernel
theorem dX9_object_5 : decode cX9_object 5 = .ok (.aload_n 0, 1) := by decide +kernel
theorem dX9_object_6 : decode cX9_object 6 = .ok (.iload_n 1, 1) := by decide +kernel
theorem dX9_object_7 : decode cX9_object 7 = .ok (.invokevirtual 130, 3) := by decide +kernel
theorem dX9_object_10 : decode cX9_object 10 = .ok (.ifCond .eq 21, 3) := by decide +kernel
theorem dX9_object_13 : decode cX9_object 13 = .ok (.iload_n 2, 1) := by decide +kernel
theorem dX9_object_14 : decode cX9_object 14 = .ok (.iconst 0, 1) := by decide +kernel
theorem dX9_object_15 : decode cX9_object 15 = .ok (.iconst 5, 1) := by decide +kernel
theorem dX9_object_16 : decode cX9_object 16 = .ok (.invokestatic 35, 3) := by decide +kernel
theorem dX9_object_19 : decode cX9_object 19 = .ok (.ifCond .eq 12, 3) := by decide +kernel
theorem dX9_object_22 : decode cX9_object 22 = .ok (.aload_n 0, 1) := by decide +kernel
theorem dX9_object_23 : decode cX9_object 23 = .ok (.iload_n 1, 1) := by decide +kernel
theorem dX9_object_24 : decode cX9_object 24 = .ok (.iload_n 2, 1) := by decide +kernel
theorem dX9_object_25 : decode cX9_object 25 = .ok (.invokevirtual 155, 3) := by decide +kernel
theorem dX9_object_28 : decode cX9_object 28 = .ok (.goto 8, 3) := by decide +kernel
theorem dX9_object_31 : decode cX9_object 31 = .ok (.aload_n 0, 1) := by decide +kernel
theorem dX9_object_32 : decode cX9_object 32 = .ok (.iconst 1, 1) := by decide +kernel
theorem dX9_object_33 : decode cX9_object 33 = .ok (.invokevirtual 52, 3) := by decide +kernel
theorem dX9_object_36 : decode cX9_object 36 = .ok (.ireturn, 1) := by decide +kernel
set_option maxRecDepth 20000 in
theorem ggX9_number_X9_isObject : GoodIn wsX9_number wsX9_isObject := goodIn_r _ [6, 7, 8, 9, 5, 10, 24, 25, 26, 27, 28, 29, 30, 31, 32, 33] rfl (by decide +kernel)
set_option maxRecDepth 20000 in
theorem gX9_number_X9_isObject : GoodIn wsX9_number (wsV RX9 130 RX9 yX9_isObject wsX9_isObject) := goodIn_app (goodIn_of _ (by decide +kernel)) ggX9_number_X9_isObject
set_option maxRecDepth 20000 in
theorem ggX9_number_X9_isIn : GoodIn wsX9_number wsX9_isIn := goodIn_r _ [10] rfl (by decide +kernel)
set_option maxRecDepth 20000 in
theorem gX9_number_X9_isIn : GoodIn wsX9_number (va_wsS RX9 35 yX9_isIn wsX9_isIn) := goodIn_app (goodIn_of _ (by decide +kernel)) ggX9_number_X9_isIn
set_option maxRecDepth 20000 in
theorem ggX9_number_X9_fail : GoodIn wsX9_number wsX9_fail := goodIn_r _ [14, 1, 24, 25, 26, 27, 28, 29, 30, 31, 32, 33] rfl (by decide +kernel)
set_option maxRecDepth 20000 in
theorem gX9_number_X9_fail : GoodIn wsX9_number (wsV RX9 52 RX9 yX9_fail wsX9_fail) := goodIn_app (goodIn_of _ (by decide +kernel)) ggX9_number_X9_fail
set_option maxRecDepth 20000 in
theorem ggX9_number_X9_lacks : GoodIn wsX9_number wsX9_lacks := goodIn_r _ [18, 19, 20, 21, 5, 22, 23, 24, 25, 26, 27, 28, 29, 30, 31, 32, 33] rfl (by decide +kernel)
set_option maxRecDepth 20000 in
theorem gX9_number_X9_lacks : GoodIn wsX9_number (wsV RX9 111 RX9 yX9_lacks wsX9_lacks) := goodIn_app (goodIn_of _ (by decide +kernel)) ggX9_number_X9_lacks
set_option maxRecDepth 20000 in
theorem ggX9_number_X9_get : GoodIn wsX9_number wsX9_get := goodIn_r _ [22, 23, 24, 25, 26, 27, 28, 29, 30, 31, 32, 33] rfl (by decide +kernel)
set_option maxRecDepth 20000 in
theorem gX9_number_X9_get : GoodIn wsX9_number (wsV RX9 39 RX9 yX9_get wsX9_get) := goodIn_app (goodIn_of _ (by decide +kernel)) ggX9_number_X9_get
theorem dX9_number_0 : decode cX9_number 0 = .ok (.aload_n 0, 1) := by decide +kernel
theorem dX9_number_1 : decode cX9_number 1 = .ok (.iconst 0, 1) := by decide +kernel
theorem dX9_number_2 : decode cX9_number 2 = .ok (.putfield 29, 3) := by decide +kernel
theorem dX9_number_5 : decode cX9_number 5 = .ok (.aload_n 0, 1) := by decide +kernel
theorem dX9_number_6 : decode cX9_number 6 = .ok (.iload_n 1, 1) := by decide +kernel
theorem dX9_number_7 : decode cX9_number 7 = .ok (.invokevirtual 130, 3) := by decide +kernel
theorem dX9_number_10 : decode cX9_number 10 = .ok (.ifCond .eq 12, 3) := by decide +kernel
theorem dX9_number_13 : decode cX9_number 13 = .ok (.iload_n 2, 1) := by decide +kernel
theorem dX9_number_14 : decode cX9_number 14 = .ok (.iconst 0, 1) := by decide +kernel
theorem dX9_number_15 : decode cX9_number 15 = .ok (.iconst 2, 1) := by decide +kernel
theorem dX9_number_16 : decode cX9_number 16 = .ok (.invokestatic 35, 3) := by decide +kernel
theorem dX9_number_19 : decode cX9_number 19 = .ok (.ifCond .ne 9, 3) := by decide +kernel
theorem dX9_number_22 : decode cX9_number 22 = .ok (.aload_n 0, 1) := by decide +kernel
theorem dX9_number_23 : decode cX9_number 23 = .ok (.iconst 1, 1) := by decide +kernel
theorem dX9_number_24 : decode cX9_number 24 = .ok (.invokevirtual 52, 3) := by decide +kernel
theorem dX9_number_27 : decode cX9_number 27 = .ok (.ireturn, 1) := by decide +kernel
theorem dX9_number_28 : decode cX9_number 28 = .ok (.aload_n 0, 1) := by decide +kernel
theorem dX9_number_29 : decode cX9_number 29 = .ok (.iload_n 1, 1) := by decide +kernel
theorem dX9_number_30 : decode cX9_number 30 = .ok (.invokevirtual 111, 3) := by decide +kernel
theorem dX9_number_33 : decode cX9_number 33 = .ok (.ifCond .eq 11, 3) := by decide +kernel
theorem dX9_number_36 : decode cX9_number 36 = .ok (.aload_n 0, 1) := by decide +kernel
theorem dX9_number_37 : decode cX9_number 37 = .ok (.iconst 2, 1) := by decide +kernel
theorem dX9_number_38 : decode cX9_number 38 = .ok (.invokevirtual 52, 3) := by decide +kernel
theorem dX9_number_41 : decode cX9_number 41 = .ok (.goto 12, 3) := by decide +kernel
theorem dX9_number_44 : decode cX9_number 44 = .ok (.aload_n 0, 1) := by decide +kernel
theorem dX9_number_45 : decode cX9_number 45 = .ok (.iload_n 1, 1) := by decide +kernel
theorem dX9_number_46 : decode cX9_number 46 = .ok (.bipush 8, 2) := by decide +kernel
theorem dX9_number_48 : decode cX9_number 48 = .ok (.iload_n 2, 1) := by decide +kernel
theorem dX9_number_49 : decode cX9_number 49 = .ok (.iadd, 1) := by decide +kernel
theorem dX9_number_50 : decode cX9_number 50 = .ok (.invokevirtual 39, 3) := by decide +kernel
theorem dX9_number_53 : decode cX9_number 53 = .ok (.ireturn, 1) := by decide +kernel
set_option maxRecDepth 20000 in
theorem ggX9_places_X9_isObject : GoodIn wsX9_places wsX9_isObject := goodIn_r _ [7, 8, 9, 10, 6, 11, 29, 30, 31, 32, 33, 34, 35, 36, 37, 38] rfl (by decide +kernel)
set_option maxRecDepth 20000 in
theorem gX9_places_X9_isObject : GoodIn wsX9_places (wsV RX9 130 RX9 yX9_isObject wsX9_isObject) := goodIn_app (goodIn_of _ (by decide +kernel)) ggX9_places_X9_isObject
set_option maxRecDepth 20000 in
theorem ggX9_places_X9_fail : GoodIn wsX9_places wsX9_fail := goodIn_r _ [15, 1, 29, 30, 31, 32, 33, 34, 35, 36, 37, 38] rfl (by decide +kernel)
set_option maxRecDepth 20000 in
theorem gX9_places_X9_fail : GoodIn wsX9_places (wsV RX9 52 RX9 yX9_fail wsX9_fail) := goodIn_app (goodIn_of _ (by decide +kernel)) ggX9_places_X9_fail
set_option maxRecDepth 20000 in
theorem ggX9_places_X9_lacks : GoodIn wsX9_places wsX9_lacks := goodIn_r _ [19, 20, 21, 22, 6, 23, 24, 29, 30, 31, 32, 33, 34, 35, 36, 37, 38] rfl (by decide +kernel)
set_option maxRecDepth 20000 in
theorem gX9_places_X9_lacks : GoodIn wsX9_places (wsV RX9 111 RX9 yX9_lacks wsX9_lacks) := goodIn_app (goodIn_of _ (by decide +kernel)) ggX9_places_X9_lacks
set_option maxRecDepth 20000 in
theorem ggX9_places_X9_sort : GoodIn wsX9_places wsX9_sort := goodIn_r _ [28, 20, 21, 22, 6, 23, 24, 29, 30, 31, 32, 33, 34, 35, 36, 37, 38] rfl (by decide +kernel)
set_option maxRecDepth 20000 in
theorem gX9_places_X9_sort : GoodIn wsX9_places (wsV RX9 133 RX9 yX9_sort wsX9_sort) := goodIn_app (goodIn_of _ (by decide +kernel)) ggX9_places_X9_sort
theorem dX9_places_0 : decode cX9_places 0 = .ok (.aload_n 0, 1) := by decide +kernel
theorem dX9_places_1 : decode cX9_places 1 = .ok (.iconst 0, 1) := by decide +kernel
theorem dX9_places_2 : decode cX9_places 2 = .ok (.putfield 29, 3) := by decide +kernel
theorem dX9_places_5 : decode cX9_places 5 = .ok (.aload_n 0, 1) := by decide +kernel
theorem dX9_places_6 : decode cX9_places 6 = .ok (.iload_n 1, 1) := by decide +kernel
theorem dX9_places_7 : decode cX9_places 7 = .ok (.invokevirtual 130, 3) := by decide +kernel
theorem dX9_places_10 : decode cX9_places 10 = .ok (.ifCond .ne 9, 3) := by decide +kernel
theorem dX9_places_13 : decode cX9_places 13 = .ok (.aload_n 0, 1) := by decide +kernel
theorem dX9_places_14 : decode cX9_places 14 = .ok (.iconst 1, 1) := by decide +kernel
theorem dX9_places_15 : decode cX9_places 15 = .ok (.invokevirtual 52, 3) := by decide +kernel
theorem dX9_places_18 : decode cX9_places 18 = .ok (.ireturn, 1) := by decide +kernel
theorem dX9_places_19 : decode cX9_places 19 = .ok (.aload_n 0, 1) := by decide +kernel
theorem dX9_places_20 : decode cX9_places 20 = .ok (.iload_n 1, 1) := by decide +kernel
theorem dX9_places_21 : decode cX9_places 21 = .ok (.invokevirtual 111, 3) := by decide +kernel
theorem dX9_places_24 : decode cX9_places 24 = .ok (.ifCond .eq 7, 3) := by decide +kernel
theorem dX9_places_27 : decode cX9_places 27 = .ok (.iconst 0, 1) := by decide +kernel
theorem dX9_places_28 : decode cX9_places 28 = .ok (.goto 37, 3) := by decide +kernel
theorem dX9_places_31 : decode cX9_places 31 = .ok (.aload_n 0, 1) := by decide +kernel
theorem dX9_places_32 : decode cX9_places 32 = .ok (.iload_n 1, 1) := by decide +kernel
theorem dX9_places_33 : decode cX9_places 33 = .ok (.invokevirtual 133, 3) := by decide +kernel
theorem dX9_places_36 : decode cX9_places 36 = .ok (.ifCond .ne 7, 3) := by decide +kernel
theorem dX9_places_39 : decode cX9_places 39 = .ok (.iconst 1, 1) := by decide +kernel
theorem dX9_places_40 : decode cX9_places 40 = .ok (.goto 25, 3) := by decide +kernel
theorem dX9_places_43 : decode cX9_places 43 = .ok (.aload_n 0, 1) := by decide +kernel
theorem dX9_places_44 : decode cX9_places 44 = .ok (.iload_n 1, 1) := by decide +kernel
theorem dX9_places_45 : decode cX9_places 45 = .ok (.invokevirtual 133, 3) := by decide +kernel
theorem dX9_places_48 : decode cX9_places 48 = .ok (.iconst 1, 1) := by decide +kernel
theorem dX9_places_49 : decode cX9_places 49 = .ok (.if_icmp .ne 10, 3) := by decide +kernel
theorem dX9_places_52 : decode cX9_places 52 = .ok (.aload_n 0, 1) := by decide +kernel
theorem dX9_places_53 : decode cX9_places 53 = .ok (.getfield 7, 3) := by decide +kernel
theorem dX9_places_56 : decode cX9_places 56 = .ok (.goto 9, 3) := by decide +kernel
theorem dX9_places_59 : decode cX9_places 59 = .ok (.aload_n 0, 1) := by decide +kernel
theorem dX9_places_60 : decode cX9_places 60 = .ok (.getfield 7, 3) := by decide +kernel
theorem dX9_places_63 : decode cX9_places 63 = .ok (.iconst 1, 1) := by decide +kernel
theorem dX9_places_64 : decode cX9_places 64 = .ok (.iadd, 1) := by decide +kernel
theorem dX9_places_65 : decode cX9_places 65 = .ok (.ireturn, 1) := by decide +kernel
set_option maxRecDepth 20000 in
theorem ggX9_square_X9_isObject : GoodIn wsX9_square wsX9_isObject := goodIn_r _ [6, 7, 8, 9, 5, 10, 49, 50, 51, 52, 53, 54, 55, 56, 57, 58] rfl (by decide +kernel)
set_option maxRecDepth 20000 in
theorem gX9_square_X9_isObject : GoodIn wsX9_square (wsV RX9 130 RX9 yX9_isObject wsX9_isObject) := goodIn_app (goodIn_of _ (by decide +kernel)) ggX9_square_X9_isObject
set_option maxRecDepth 20000 in
theorem ggX9_square_X9_fail : GoodIn wsX9_square wsX9_fail := goodIn_r _ [14, 1, 49, 50, 51, 52, 53, 54, 55, 56, 57, 58] rfl (by decide +kernel)
set_option maxRecDepth 20000 in
theorem gX9_square_X9_fail : GoodIn wsX9_square (wsV RX9 52 RX9 yX9_fail wsX9_fail) := goodIn_app (goodIn_of _ (by decide +kernel)) ggX9_square_X9_fail
set_option maxRecDepth 20000 in
theorem ggX9_square_X9_sort : GoodIn wsX9_square wsX9_sort := goodIn_r _ [18, 19, 20, 21, 5, 22, 23, 49, 50, 51, 52, 53, 54, 55, 56, 57, 58] rfl (by decide +kernel)
set_option maxRecDepth 20000 in
theorem gX9_square_X9_sort : GoodIn wsX9_square (wsV RX9 133 RX9 yX9_sort wsX9_sort) := goodIn_app (goodIn_of _ (by decide +kernel)) ggX9_square_X9_sort
set_option maxRecDepth 20000 in
theorem ggX9_square_X9_lacks : GoodIn wsX9_square wsX9_lacks := goodIn_r _ [27, 19, 20, 21, 5, 22, 23, 49, 50, 51, 52, 53, 54, 55, 56, 57, 58] rfl (by decide +kernel)
set_option maxRecDepth 20000 in
theorem gX9_square_X9_lacks : GoodIn wsX9_square (wsV RX9 111 RX9 yX9_lacks wsX9_lacks) := goodIn_app (goodIn_of _ (by decide +kernel)) ggX9_square_X9_lacks
set_option maxRecDepth 20000 in
theorem ggX9_square_X9_x : GoodIn wsX9_square wsX9_x := goodIn_r _ [31, 19, 20, 21, 5, 22, 23, 49, 50, 51, 52, 53, 54, 55, 56, 57, 58] rfl (by decide +kernel)
set_option maxRecDepth 20000 in
theorem gX9_square_X9_x : GoodIn wsX9_square (wsV RX9 68 RX9 yX9_x wsX9_x) := goodIn_app (goodIn_of _ (by decide +kernel)) ggX9_square_X9_x
set_option maxRecDepth 20000 in
theorem ggX9_square_X9_y : GoodIn wsX9_square wsX9_y := goodIn_r _ [35, 19, 20, 21, 5, 22, 23, 49, 50, 51, 52, 53, 54, 55, 56, 57, 58] rfl (by decide +kernel)
set_option maxRecDepth 20000 in
theorem gX9_square_X9_y : GoodIn wsX9_square (wsV RX9 71 RX9 yX9_y wsX9_y) := goodIn_app (goodIn_of _ (by decide +kernel)) ggX9_square_X9_y
set_option maxRecDepth 20000 in
theorem ggX9_square_X9_squareOf : GoodIn wsX9_square wsX9_squareOf := goodIn_r _ [39, 40, 41, 42, 5, 43, 44, 45, 46, 47, 48, 49, 50, 51, 52, 53, 54, 55, 56, 57, 58] rfl (by decide +kernel)
set_option maxRecDepth 20000 in
theorem gX9_square_X9_squareOf : GoodIn wsX9_square (wsV RX9 64 RX9 yX9_squareOf wsX9_squareOf) := goodIn_app (goodIn_of _ (by decide +kernel)) ggX9_square_X9_squareOf
theorem dX9_square_0 : decode cX9_square 0 = .ok (.aload_n 0, 1) := by decide +kernel
theorem dX9_square_1 : decode cX9_square 1 = .ok (.iconst 0, 1) := by decide +kernel
theorem dX9_square_2 : decode cX9_square 2 = .ok (.putfield 29, 3) := by decide +kernel
theorem dX9_square_5 : decode cX9_square 5 = .ok (.aload_n 0, 1) := by decide +kernel
theorem dX9_square_6 : decode cX9_square 6 = .ok (.iload_n 1, 1) := by decide +kernel
theorem dX9_square_7 : decode cX9_square 7 = .ok (.invokevirtual 130, 3) := by decide +kernel
theorem dX9_square_10 : decode cX9_square 10 = .ok (.ifCond .eq 11, 3) := by decide +kernel
theorem dX9_square_13 : decode cX9_square 13 = .ok (.aload_n 0, 1) := by decide +kernel
theorem dX9_square_14 : decode cX9_square 14 = .ok (.iload_n 2, 1) := by decide +kernel
theorem dX9_square_15 : decode cX9_square 15 = .ok (.invokevirtual 130, 3) := by decide +kernel
theorem dX9_square_18 : decode cX9_square 18 = .ok (.ifCond .ne 9, 3) := by decide +kernel
theorem dX9_square_21 : decode cX9_square 21 = .ok (.aload_n 0, 1) := by decide +kernel
theorem dX9_square_22 : decode cX9_square 22 = .ok (.iconst 1, 1) := by decide +kernel
theorem dX9_square_23 : decode cX9_square 23 = .ok (.invokevirtual 52, 3) := by decide +kernel
theorem dX9_square_26 : decode cX9_square 26 = .ok (.ireturn, 1) := by decide +kernel
theorem dX9_square_27 : decode cX9_square 27 = .ok (.aload_n 0, 1) := by decide +kernel
theorem dX9_square_28 : decode cX9_square 28 = .ok (.iload_n 1, 1) := by decide +kernel
theorem dX9_square_29 : decode cX9_square 29 = .ok (.invokevirtual 133, 3) := by decide +kernel
theorem dX9_square_32 : decode cX9_square 32 = .ok (.ifCond .ne 27, 3) := by decide +kernel
theorem dX9_square_35 : decode cX9_square 35 = .ok (.aload_n 0, 1) := by decide +kernel
theorem dX9_square_36 : decode cX9_square 36 = .ok (.iload_n 2, 1) := by decide +kernel
theorem dX9_square_37 : decode cX9_square 37 = .ok (.invokevirtual 133, 3) := by decide +kernel
theorem dX9_square_40 : decode cX9_square 40 = .ok (.ifCond .ne 19, 3) := by decide +kernel
theorem dX9_square_43 : decode cX9_square 43 = .ok (.aload_n 0, 1) := by decide +kernel
theorem dX9_square_44 : decode cX9_square 44 = .ok (.iload_n 1, 1) := by decide +kernel
theorem dX9_square_45 : decode cX9_square 45 = .ok (.invokevirtual 111, 3) := by decide +kernel
theorem dX9_square_48 : decode cX9_square 48 = .ok (.ifCond .ne 11, 3) := by decide +kernel
theorem dX9_square_51 : decode cX9_square 51 = .ok (.aload_n 0, 1) := by decide +kernel
theorem dX9_square_52 : decode cX9_square 52 = .ok (.iload_n 2, 1) := by decide +kernel
theorem dX9_square_53 : decode cX9_square 53 = .ok (.invokevirtual 111, 3) := by decide +kernel
theorem dX9_square_56 : decode cX9_square 56 = .ok (.ifCond .eq 9, 3) := by decide +kernel
theorem dX9_square_59 : decode cX9_square 59 = .ok (.aload_n 0, 1) := by decide +kernel
theorem dX9_square_60 : decode cX9_square 60 = .ok (.iconst 2, 1) := by decide +kernel
theorem dX9_square_61 : decode cX9_square 61 = .ok (.invokevirtual 52, 3) := by decide +kernel
theorem dX9_square_64 : decode cX9_square 64 = .ok (.ireturn, 1) := by decide +kernel
theorem dX9_square_65 : decode cX9_square 65 = .ok (.aload_n 0, 1) := by decide +kernel
theorem dX9_square_66 : decode cX9_square 66 = .ok (.aload_n 0, 1) := by decide +kernel
theorem dX9_square_67 : decode cX9_square 67 = .ok (.iload_n 1, 1) := by decide +kernel
theorem dX9_square_68 : decode cX9_square 68 = .ok (.invokevirtual 68, 3) := by decide +kernel
theorem dX9_square_71 : decode cX9_square 71 = .ok (.aload_n 0, 1) := by decide +kernel
theorem dX9_square_72 : decode cX9_square 72 = .ok (.iload_n 1, 1) := by decide +kernel
theorem dX9_square_73 : decode cX9_square 73 = .ok (.invokevirtual 71, 3) := by decide +kernel
theorem dX9_square_76 : decode cX9_square 76 = .ok (.aload_n 0, 1) := by decide +kernel
theorem dX9_square_77 : decode cX9_square 77 = .ok (.iload_n 2, 1) := by decide +kernel
theorem dX9_square_78 : decode cX9_square 78 = .ok (.invokevirtual 68, 3) := by decide +kernel
theorem dX9_square_81 : decode cX9_square 81 = .ok (.aload_n 0, 1) := by decide +kernel
theorem dX9_square_82 : decode cX9_square 82 = .ok (.iload_n 2, 1) := by decide +kernel
theorem dX9_square_83 : decode cX9_square 83 = .ok (.invokevirtual 71, 3) := by decide +kernel
theorem dX9_square_86 : decode cX9_square 86 = .ok (.invokevirtual 64, 3) := by decide +kernel
theorem dX9_square_89 : decode cX9_square 89 = .ok (.ireturn, 1) := by decide +kernel
set_option maxRecDepth 20000 in
theorem ggX9_claim_X9_isIn : GoodIn wsX9_claim wsX9_isIn := goodIn_r _ [13] rfl (by decide +kernel)
set_option maxRecDepth 20000 in
theorem gX9_claim_X9_isIn : GoodIn wsX9_claim (va_wsS RX9 35 yX9_isIn wsX9_isIn) := goodIn_app (goodIn_of _ (by decide +kernel)) ggX9_claim_X9_isIn
set_option maxRecDepth 20000 in
theorem ggX9_claim_X9_fail : GoodIn wsX9_claim wsX9_fail := goodIn_r _ [17, 1, 36, 37, 38, 39, 40, 41, 42, 43, 44, 45] rfl (by decide +kernel)
set_option maxRecDepth 20000 in
theorem gX9_claim_X9_fail : GoodIn wsX9_claim (wsV RX9 52 RX9 yX9_fail wsX9_fail) := goodIn_app (goodIn_of _ (by decide +kernel)) ggX9_claim_X9_fail
set_option maxRecDepth 20000 in
theorem ggX9_claim_X9_isObject : GoodIn wsX9_claim wsX9_isObject := goodIn_r _ [21, 22, 10, 11, 12, 13, 36, 37, 38, 39, 40, 41, 42, 43, 44, 45] rfl (by decide +kernel)
set_option maxRecDepth 20000 in
theorem gX9_claim_X9_isObject : GoodIn wsX9_claim (wsV RX9 130 RX9 yX9_isObject wsX9_isObject) := goodIn_app (goodIn_of _ (by decide +kernel)) ggX9_claim_X9_isObject
set_option maxRecDepth 20000 in
theorem ggX9_claim_X9_sort : GoodIn wsX9_claim wsX9_sort := goodIn_r _ [26, 27, 28, 29, 12, 30, 31, 36, 37, 38, 39, 40, 41, 42, 43, 44, 45] rfl (by decide +kernel)
set_option maxRecDepth 20000 in
theorem gX9_claim_X9_sort : GoodIn wsX9_claim (wsV RX9 133 RX9 yX9_sort wsX9_sort) := goodIn_app (goodIn_of _ (by decide +kernel)) ggX9_claim_X9_sort
set_option maxRecDepth 20000 in
theorem ggX9_claim_X9_areOf : GoodIn wsX9_claim wsX9_areOf := goodIn_r _ [35, 23, 24, 25, 12, 26, 27, 28, 29, 30, 31, 36, 37, 38, 39, 40, 41, 42, 43, 44, 45] rfl (by decide +kernel)
set_option maxRecDepth 20000 in
theorem gX9_claim_X9_areOf : GoodIn wsX9_claim (wsV RX9 147 RX9 yX9_areOf wsX9_areOf) := goodIn_app (goodIn_of _ (by decide +kernel)) ggX9_claim_X9_areOf
theorem dX9_claim_0 : decode cX9_claim 0 = .ok (.aload_n 0, 1) := by decide +kernel
theorem dX9_claim_1 : decode cX9_claim 1 = .ok (.iconst 0, 1) := by decide +kernel
theorem dX9_claim_2 : decode cX9_claim 2 = .ok (.putfield 29, 3) := by decide +kernel
theorem dX9_claim_5 : decode cX9_claim 5 = .ok (.iload_n 1, 1) := by decide +kernel
theorem dX9_claim_6 : decode cX9_claim 6 = .ok (.iconst 0, 1) := by decide +kernel
theorem dX9_claim_7 : decode cX9_claim 7 = .ok (.bipush 7, 2) := by decide +kernel
theorem dX9_claim_9 : decode cX9_claim 9 = .ok (.invokestatic 35, 3) := by decide +kernel
theorem dX9_claim_12 : decode cX9_claim 12 = .ok (.ifCond .ne 9, 3) := by decide +kernel
theorem dX9_claim_15 : decode cX9_claim 15 = .ok (.aload_n 0, 1) := by decide +kernel
theorem dX9_claim_16 : decode cX9_claim 16 = .ok (.iconst 1, 1) := by decide +kernel
theorem dX9_claim_17 : decode cX9_claim 17 = .ok (.invokevirtual 52, 3) := by decide +kernel
theorem dX9_claim_20 : decode cX9_claim 20 = .ok (.ireturn, 1) := by decide +kernel
theorem dX9_claim_21 : decode cX9_claim 21 = .ok (.iload_n 1, 1) := by decide +kernel
theorem dX9_claim_22 : decode cX9_claim 22 = .ok (.iconst 2, 1) := by decide +kernel
theorem dX9_claim_23 : decode cX9_claim 23 = .ok (.if_icmp .eq 14, 3) := by decide +kernel
theorem dX9_claim_26 : decode cX9_claim 26 = .ok (.iload_n 1, 1) := by decide +kernel
theorem dX9_claim_27 : decode cX9_claim 27 = .ok (.iconst 5, 1) := by decide +kernel
theorem dX9_claim_28 : decode cX9_claim 28 = .ok (.if_icmp .eq 9, 3) := by decide +kernel
theorem dX9_claim_31 : decode cX9_claim 31 = .ok (.iload_n 1, 1) := by decide +kernel
theorem dX9_claim_32 : decode cX9_claim 32 = .ok (.bipush 7, 2) := by decide +kernel
theorem dX9_claim_34 : decode cX9_claim 34 = .ok (.if_icmp .ne 7, 3) := by decide +kernel
theorem dX9_claim_37 : decode cX9_claim 37 = .ok (.iconst 1, 1) := by decide +kernel
theorem dX9_claim_38 : decode cX9_claim 38 = .ok (.goto 4, 3) := by decide +kernel
theorem dX9_claim_41 : decode cX9_claim 41 = .ok (.iconst 0, 1) := by decide +kernel
theorem dX9_claim_42 : decode cX9_claim 42 = .ok (.istore 6, 2) := by decide +kernel
theorem dX9_claim_44 : decode cX9_claim 44 = .ok (.aload_n 0, 1) := by decide +kernel
theorem dX9_claim_45 : decode cX9_claim 45 = .ok (.iload_n 2, 1) := by decide +kernel
theorem dX9_claim_46 : decode cX9_claim 46 = .ok (.invokevirtual 130, 3) := by decide +kernel
theorem dX9_claim_49 : decode cX9_claim 49 = .ok (.ifCond .eq 39, 3) := by decide +kernel
theorem dX9_claim_52 : decode cX9_claim 52 = .ok (.aload_n 0, 1) := by decide +kernel
theorem dX9_claim_53 : decode cX9_claim 53 = .ok (.iload_n 3, 1) := by decide +kernel
theorem dX9_claim_54 : decode cX9_claim 54 = .ok (.invokevirtual 130, 3) := by decide +kernel
theorem dX9_claim_57 : decode cX9_claim 57 = .ok (.ifCond .eq 31, 3) := by decide +kernel
theorem dX9_claim_60 : decode cX9_claim 60 = .ok (.iload 6, 2) := by decide +kernel
theorem dX9_claim_62 : decode cX9_claim 62 = .ok (.ifCond .eq 12, 3) := by decide +kernel
theorem dX9_claim_65 : decode cX9_claim 65 = .ok (.aload_n 0, 1) := by decide +kernel
theorem dX9_claim_66 : decode cX9_claim 66 = .ok (.iload 4, 2) := by decide +kernel
theorem dX9_claim_68 : decode cX9_claim 68 = .ok (.invokevirtual 130, 3) := by decide +kernel
theorem dX9_claim_71 : decode cX9_claim 71 = .ok (.ifCond .eq 17, 3) := by decide +kernel
theorem dX9_claim_74 : decode cX9_claim 74 = .ok (.iload_n 1, 1) := by decide +kernel
theorem dX9_claim_75 : decode cX9_claim 75 = .ok (.iconst 5, 1) := by decide +kernel
theorem dX9_claim_76 : decode cX9_claim 76 = .ok (.if_icmp .ne 18, 3) := by decide +kernel
theorem dX9_claim_79 : decode cX9_claim 79 = .ok (.aload_n 0, 1) := by decide +kernel
theorem dX9_claim_80 : decode cX9_claim 80 = .ok (.iload 5, 2) := by decide +kernel
theorem dX9_claim_82 : decode cX9_claim 82 = .ok (.invokevirtual 130, 3) := by decide +kernel
theorem dX9_claim_85 : decode cX9_claim 85 = .ok (.ifCond .ne 9, 3) := by decide +kernel
theorem dX9_claim_88 : decode cX9_claim 88 = .ok (.aload_n 0, 1) := by decide +kernel
theorem dX9_claim_89 : decode cX9_claim 89 = .ok (.iconst 2, 1) := by decide +kernel
theorem dX9_claim_90 : decode cX9_claim 90 = .ok (.invokevirtual 52, 3) := by decide +kernel
theorem dX9_claim_93 : decode cX9_claim 93 = .ok (.ireturn, 1) := by decide +kernel
theorem dX9_claim_94 : decode cX9_claim 94 = .ok (.iload_n 1, 1) := by decide +kernel
theorem dX9_claim_95 : decode cX9_claim 95 = .ok (.bipush 6, 2) := by decide +kernel
theorem dX9_claim_97 : decode cX9_claim 97 = .ok (.if_icmp .ne 17, 3) := by decide +kernel
theorem dX9_claim_100 : decode cX9_claim 100 = .ok (.sipush 1100, 3) := by decide +kernel
theorem dX9_claim_103 : decode cX9_claim 103 = .ok (.aload_n 0, 1) := by decide +kernel
theorem dX9_claim_104 : decode cX9_claim 104 = .ok (.iload_n 2, 1) := by decide +kernel
theorem dX9_claim_105 : decode cX9_claim 105 = .ok (.invokevirtual 133, 3) := by decide +kernel
theorem dX9_claim_108 : decode cX9_claim 108 = .ok (.iconst 1, 1) := by decide +kernel
theorem dX9_claim_109 : decode cX9_claim 109 = .ok (.iadd, 1) := by decide +kernel
theorem dX9_claim_110 : decode cX9_claim 110 = .ok (.imul, 1) := by decide +kernel
theorem dX9_claim_111 : decode cX9_claim 111 = .ok (.goto 8, 3) := by decide +kernel
theorem dX9_claim_114 : decode cX9_claim 114 = .ok (.getstatic 158, 3) := by decide +kernel
theorem dX9_claim_117 : decode cX9_claim 117 = .ok (.iload_n 1, 1) := by decide +kernel
theorem dX9_claim_118 : decode cX9_claim 118 = .ok (.iaload, 1) := by decide +kernel
theorem dX9_claim_119 : decode cX9_claim 119 = .ok (.istore 7, 2) := by decide +kernel
theorem dX9_claim_121 : decode cX9_claim 121 = .ok (.aload_n 0, 1) := by decide +kernel
theorem dX9_claim_122 : decode cX9_claim 122 = .ok (.iload 7, 2) := by decide +kernel
theorem dX9_claim_124 : decode cX9_claim 124 = .ok (.sipush 1000, 3) := by decide +kernel
theorem dX9_claim_127 : decode cX9_claim 127 = .ok (.iconst 4, 1) := by decide +kernel
theorem dX9_claim_128 : decode cX9_claim 128 = .ok (.newarray .int, 2) := by decide +kernel
theorem dX9_claim_130 : decode cX9_claim 130 = .ok (.dup, 1) := by decide +kernel
theorem dX9_claim_131 : decode cX9_claim 131 = .ok (.iconst 0, 1) := by decide +kernel
theorem dX9_claim_132 : decode cX9_claim 132 = .ok (.iload_n 2, 1) := by decide +kernel
theorem dX9_claim_133 : decode cX9_claim 133 = .ok (.iastore, 1) := by decide +kernel
theorem dX9_claim_134 : decode cX9_claim 134 = .ok (.dup, 1) := by decide +kernel
theorem dX9_claim_135 : decode cX9_claim 135 = .ok (.iconst 1, 1) := by decide +kernel
theorem dX9_claim_136 : decode cX9_claim 136 = .ok (.iload_n 3, 1) := by decide +kernel
theorem dX9_claim_137 : decode cX9_claim 137 = .ok (.iastore, 1) := by decide +kernel
theorem dX9_claim_138 : decode cX9_claim 138 = .ok (.dup, 1) := by decide +kernel
theorem dX9_claim_139 : decode cX9_claim 139 = .ok (.iconst 2, 1) := by decide +kernel
theorem dX9_claim_140 : decode cX9_claim 140 = .ok (.iload 4, 2) := by decide +kernel
theorem dX9_claim_142 : decode cX9_claim 142 = .ok (.iastore, 1) := by decide +kernel

