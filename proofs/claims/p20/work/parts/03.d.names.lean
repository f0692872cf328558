theorem dX3_has_6 : decode cX3_has 6 = .ok (.getfield 9, 3) := by decide +kernel
theorem dX3_has_9 : decode cX3_has 9 = .ok (.if_icmp .ge 7, 3) := by decide +kernel
theorem dX3_has_12 : decode cX3_has 12 = .ok (.iconst 1, 1) := by decide +kernel
theorem dX3_has_13 : decode cX3_has 13 = .ok (.goto 4, 3) := by decide +kernel
theorem dX3_has_16 : decode cX3_has 16 = .ok (.iconst 0, 1) := by decide +kernel
theorem dX3_has_17 : decode cX3_has 17 = .ok (.ireturn, 1) := by decide +kernel
set_option maxRecDepth 20000 in
theorem ggX3_rest_J9_floorMod_7cf53 : GoodIn wsX3_rest wsJ9_floorMod_7cf53 := goodIn_r _ [5] rfl (by decide +kernel)
set_option maxRecDepth 20000 in
theorem gX3_rest_J9_floorMod_7cf53 : GoodIn wsX3_rest (va_wsS RX3 30 yJ9_floorMod_7cf53 wsJ9_floorMod_7cf53) := goodIn_app (goodIn_of _ (by decide +kernel)) ggX3_rest_J9_floorMod_7cf53
theorem dX3_rest_0 : decode cX3_rest 0 = .ok (.aload_n 0, 1) := by decide +kernel
theorem dX3_rest_1 : decode cX3_rest 1 = .ok (.getfield 9, 3) := by decide +kernel
theorem dX3_rest_4 : decode cX3_rest 4 = .ok (.ifCond .ne 7, 3) := by decide +kernel
theorem dX3_rest_7 : decode cX3_rest 7 = .ok (.iconst 0, 1) := by decide +kernel
theorem dX3_rest_8 : decode cX3_rest 8 = .ok (.goto 11, 3) := by decide +kernel
theorem dX3_rest_11 : decode cX3_rest 11 = .ok (.iload_n 1, 1) := by decide +kernel
theorem dX3_rest_12 : decode cX3_rest 12 = .ok (.aload_n 0, 1) := by decide +kernel
theorem dX3_rest_13 : decode cX3_rest 13 = .ok (.getfield 9, 3) := by decide +kernel
theorem dX3_rest_16 : decode cX3_rest 16 = .ok (.invokestatic 30, 3) := by decide +kernel
theorem dX3_rest_19 : decode cX3_rest 19 = .ok (.ireturn, 1) := by decide +kernel
theorem dX3_inverseOf_0 : decode cX3_inverseOf 0 = .ok (.iload_n 1, 1) := by decide +kernel
theorem dX3_inverseOf_1 : decode cX3_inverseOf 1 = .ok (.ifCond .lt 21, 3) := by decide +kernel
theorem dX3_inverseOf_4 : decode cX3_inverseOf 4 = .ok (.iload_n 1, 1) := by decide +kernel
theorem dX3_inverseOf_5 : decode cX3_inverseOf 5 = .ok (.aload_n 0, 1) := by decide +kernel
theorem dX3_inverseOf_6 : decode cX3_inverseOf 6 = .ok (.getfield 15, 3) := by decide +kernel
theorem dX3_inverseOf_9 : decode cX3_inverseOf 9 = .ok (.arraylength, 1) := by decide +kernel
theorem dX3_inverseOf_10 : decode cX3_inverseOf 10 = .ok (.if_icmp .ge 12, 3) := by decide +kernel
theorem dX3_inverseOf_13 : decode cX3_inverseOf 13 = .ok (.aload_n 0, 1) := by decide +kernel
theorem dX3_inverseOf_14 : decode cX3_inverseOf 14 = .ok (.getfield 15, 3) := by decide +kernel
theorem dX3_inverseOf_17 : decode cX3_inverseOf 17 = .ok (.iload_n 1, 1) := by decide +kernel
theorem dX3_inverseOf_18 : decode cX3_inverseOf 18 = .ok (.iaload, 1) := by decide +kernel
theorem dX3_inverseOf_19 : decode cX3_inverseOf 19 = .ok (.goto 4, 3) := by decide +kernel
theorem dX3_inverseOf_22 : decode cX3_inverseOf 22 = .ok (.iconst 0, 1) := by decide +kernel
theorem dX3_inverseOf_23 : decode cX3_inverseOf 23 = .ok (.ireturn, 1) := by decide +kernel
set_option maxRecDepth 20000 in
theorem ggX3_rootOf_X3_rest : GoodIn wsX3_rootOf wsX3_rest := goodIn_r _ [6, 7, 8, 9, 10, 11, 12, 13, 14] rfl (by decide +kernel)
set_option maxRecDepth 20000 in
theorem gX3_rootOf_X3_rest : GoodIn wsX3_rootOf (wsV RX3 22 RX3 yX3_rest wsX3_rest) := goodIn_app (goodIn_of _ (by decide +kernel)) ggX3_rootOf_X3_rest
theorem dX3_rootOf_0 : decode cX3_rootOf 0 = .ok (.aload_n 0, 1) := by decide +kernel
theorem dX3_rootOf_1 : decode cX3_rootOf 1 = .ok (.iload_n 1, 1) := by decide +kernel
theorem dX3_rootOf_2 : decode cX3_rootOf 2 = .ok (.invokevirtual 22, 3) := by decide +kernel
theorem dX3_rootOf_5 : decode cX3_rootOf 5 = .ok (.istore_n 2, 1) := by decide +kernel
theorem dX3_rootOf_6 : decode cX3_rootOf 6 = .ok (.iload_n 2, 1) := by decide +kernel
theorem dX3_rootOf_7 : decode cX3_rootOf 7 = .ok (.ifCond .lt 21, 3) := by decide +kernel
theorem dX3_rootOf_10 : decode cX3_rootOf 10 = .ok (.iload_n 2, 1) := by decide +kernel
theorem dX3_rootOf_11 : decode cX3_rootOf 11 = .ok (.aload_n 0, 1) := by decide +kernel
theorem dX3_rootOf_12 : decode cX3_rootOf 12 = .ok (.getfield 19, 3) := by decide +kernel
theorem dX3_rootOf_15 : decode cX3_rootOf 15 = .ok (.arraylength, 1) := by decide +kernel
theorem dX3_rootOf_16 : decode cX3_rootOf 16 = .ok (.if_icmp .ge 12, 3) := by decide +kernel
theorem dX3_rootOf_19 : decode cX3_rootOf 19 = .ok (.aload_n 0, 1) := by decide +kernel
theorem dX3_rootOf_20 : decode cX3_rootOf 20 = .ok (.getfield 19, 3) := by decide +kernel
theorem dX3_rootOf_23 : decode cX3_rootOf 23 = .ok (.iload_n 2, 1) := by decide +kernel
theorem dX3_rootOf_24 : decode cX3_rootOf 24 = .ok (.iaload, 1) := by decide +kernel
theorem dX3_rootOf_25 : decode cX3_rootOf 25 = .ok (.goto 4, 3) := by decide +kernel
theorem dX3_rootOf_28 : decode cX3_rootOf 28 = .ok (.iconst (-1), 1) := by decide +kernel
theorem dX3_rootOf_29 : decode cX3_rootOf 29 = .ok (.ireturn, 1) := by decide +kernel
set_option maxRecDepth 20000 in
theorem ggX3_ratio_X3_rest : GoodIn wsX3_ratio wsX3_rest := goodIn_r _ [5, 6, 7, 8, 9, 10, 16, 17, 18] rfl (by decide +kernel)
set_option maxRecDepth 20000 in
theorem gX3_ratio_X3_rest : GoodIn wsX3_ratio (wsV RX3 22 RX3 yX3_rest wsX3_rest) := goodIn_app (goodIn_of _ (by decide +kernel)) ggX3_ratio_X3_rest
set_option maxRecDepth 20000 in
theorem ggX3_ratio_X3_inverseOf : GoodIn wsX3_ratio wsX3_inverseOf := goodIn_r _ [14, 15, 16, 17, 18] rfl (by decide +kernel)
set_option maxRecDepth 20000 in
theorem gX3_ratio_X3_inverseOf : GoodIn wsX3_ratio (wsV RX3 36 RX3 yX3_inverseOf wsX3_inverseOf) := goodIn_app (goodIn_of _ (by decide +kernel)) ggX3_ratio_X3_inverseOf
theorem dX3_ratio_0 : decode cX3_ratio 0 = .ok (.aload_n 0, 1) := by decide +kernel
theorem dX3_ratio_1 : decode cX3_ratio 1 = .ok (.aload_n 0, 1) := by decide +kernel
theorem dX3_ratio_2 : decode cX3_ratio 2 = .ok (.iload_n 1, 1) := by decide +kernel
theorem dX3_ratio_3 : decode cX3_ratio 3 = .ok (.invokevirtual 22, 3) := by decide +kernel
theorem dX3_ratio_6 : decode cX3_ratio 6 = .ok (.aload_n 0, 1) := by decide +kernel
theorem dX3_ratio_7 : decode cX3_ratio 7 = .ok (.aload_n 0, 1) := by decide +kernel
theorem dX3_ratio_8 : decode cX3_ratio 8 = .ok (.iload_n 2, 1) := by decide +kernel
theorem dX3_ratio_9 : decode cX3_ratio 9 = .ok (.invokevirtual 22, 3) := by decide +kernel
theorem dX3_ratio_12 : decode cX3_ratio 12 = .ok (.invokevirtual 36, 3) := by decide +kernel
theorem dX3_ratio_15 : decode cX3_ratio 15 = .ok (.imul, 1) := by decide +kernel
theorem dX3_ratio_16 : decode cX3_ratio 16 = .ok (.invokevirtual 22, 3) := by decide +kernel
theorem dX3_ratio_19 : decode cX3_ratio 19 = .ok (.ireturn, 1) := by decide +kernel
theorem dX4_init_0 : decode cX4_init 0 = .ok (.aload_n 0, 1) := by decide +kernel
theorem dX4_init_1 : decode cX4_init 1 = .ok (.invokespecial 3, 3) := by decide +kernel
theorem dX4_init_4 : decode cX4_init 4 = .ok (.aload_n 0, 1) := by decide +kernel
theorem dX4_init_5 : decode cX4_init 5 = .ok (.iconst (-1), 1) := by decide +kernel
theorem dX4_init_6 : decode cX4_init 6 = .ok (.putfield 9, 3) := by decide +kernel
theorem dX4_init_9 : decode cX4_init 9 = .ok (.aload_n 0, 1) := by decide +kernel
theorem dX4_init_10 : decode cX4_init 10 = .ok (.iconst (-1), 1) := by decide +kernel
theorem dX4_init_11 : decode cX4_init 11 = .ok (.putfield 15, 3) := by decide +kernel
theorem dX4_init_14 : decode cX4_init 14 = .ok (.aload_n 0, 1) := by decide +kernel
theorem dX4_init_15 : decode cX4_init 15 = .ok (.iconst (-1), 1) := by decide +kernel
theorem dX4_init_16 : decode cX4_init 16 = .ok (.putfield 18, 3) := by decide +kernel
theorem dX4_init_19 : decode cX4_init 19 = .ok (.aload_n 0, 1) := by decide +kernel
theorem dX4_init_20 : decode cX4_init 20 = .ok (.iload_n 1, 1) := by decide +kernel
theorem dX4_init_21 : decode cX4_init 21 = .ok (.putfield 21, 3) := by decide +kernel
theorem dX4_init_24 : decode cX4_init 24 = .ok (.return_, 1) := by decide +kernel
theorem dX4_become_0 : decode cX4_become 0 = .ok (.aload_n 0, 1) := by decide +kernel
theorem dX4_become_1 : decode cX4_become 1 = .ok (.iload_n 1, 1) := by decide +kernel
theorem dX4_become_2 : decode cX4_become 2 = .ok (.putfield 24, 3) := by decide +kernel
theorem dX4_become_5 : decode cX4_become 5 = .ok (.aload_n 0, 1) := by decide +kernel
theorem dX4_become_6 : decode cX4_become 6 = .ok (.iload_n 2, 1) := by decide +kernel
theorem dX4_become_7 : decode cX4_become 7 = .ok (.putfield 9, 3) := by decide +kernel
theorem dX4_become_10 : decode cX4_become 10 = .ok (.aload_n 0, 1) := by decide +kernel
theorem dX4_become_11 : decode cX4_become 11 = .ok (.iload_n 3, 1) := by decide +kernel
theorem dX4_become_12 : decode cX4_become 12 = .ok (.putfield 15, 3) := by decide +kernel
theorem dX4_become_15 : decode cX4_become 15 = .ok (.aload_n 0, 1) := by decide +kernel
theorem dX4_become_16 : decode cX4_become 16 = .ok (.iload 4, 2) := by decide +kernel
theorem dX4_become_18 : decode cX4_become 18 = .ok (.putfield 18, 3) := by decide +kernel
theorem dX4_become_21 : decode cX4_become 21 = .ok (.return_, 1) := by decide +kernel
theorem dX4_tell_0 : decode cX4_tell 0 = .ok (.aload_n 0, 1) := by decide +kernel
theorem dX4_tell_1 : decode cX4_tell 1 = .ok (.iload_n 1, 1) := by decide +kernel
theorem dX4_tell_2 : decode cX4_tell 2 = .ok (.putfield 27, 3) := by decide +kernel
theorem dX4_tell_5 : decode cX4_tell 5 = .ok (.aload_n 0, 1) := by decide +kernel
theorem dX4_tell_6 : decode cX4_tell 6 = .ok (.iload_n 2, 1) := by decide +kernel
theorem dX4_tell_7 : decode cX4_tell 7 = .ok (.putfield 30, 3) := by decide +kernel
theorem dX4_tell_10 : decode cX4_tell 10 = .ok (.return_, 1) := by decide +kernel
theorem dX4_put_0 : decode cX4_put 0 = .ok (.aload_n 0, 1) := by decide +kernel
theorem dX4_put_1 : decode cX4_put 1 = .ok (.iload_n 1, 1) := by decide +kernel
theorem dX4_put_2 : decode cX4_put 2 = .ok (.putfield 33, 3) := by decide +kernel
theorem dX4_put_5 : decode cX4_put 5 = .ok (.aload_n 0, 1) := by decide +kernel
theorem dX4_put_6 : decode cX4_put 6 = .ok (.iload_n 2, 1) := by decide +kernel
theorem dX4_put_7 : decode cX4_put 7 = .ok (.putfield 36, 3) := by decide +kernel
theorem dX4_put_10 : decode cX4_put 10 = .ok (.aload_n 0, 1) := by decide +kernel
theorem dX4_put_11 : decode cX4_put 11 = .ok (.iload_n 3, 1) := by decide +kernel
theorem dX4_put_12 : decode cX4_put 12 = .ok (.putfield 39, 3) := by decide +kernel
theorem dX4_put_15 : decode cX4_put 15 = .ok (.return_, 1) := by decide +kernel
theorem dX4_sort_0 : decode cX4_sort 0 = .ok (.aload_n 0, 1) := by decide +kernel
theorem dX4_sort_1 : decode cX4_sort 1 = .ok (.getfield 24, 3) := by decide +kernel
theorem dX4_sort_4 : decode cX4_sort 4 = .ok (.bipush 10, 2) := by decide +kernel
theorem dX4_sort_6 : decode cX4_sort 6 = .ok (.if_icmp .ge 7, 3) := by decide +kernel
theorem dX4_sort_9 : decode cX4_sort 9 = .ok (.iconst 0, 1) := by decide +kernel
theorem dX4_sort_10 : decode cX4_sort 10 = .ok (.goto 17, 3) := by decide +kernel
theorem dX4_sort_13 : decode cX4_sort 13 = .ok (.aload_n 0, 1) := by decide +kernel
theorem dX4_sort_14 : decode cX4_sort 14 = .ok (.getfield 24, 3) := by decide +kernel
theorem dX4_sort_17 : decode cX4_sort 17 = .ok (.bipush 20, 2) := by decide +kernel
theorem dX4_sort_19 : decode cX4_sort 19 = .ok (.if_icmp .ge 7, 3) := by decide +kernel
theorem dX4_sort_22 : decode cX4_sort 22 = .ok (.iconst 1, 1) := by decide +kernel
theorem dX4_sort_23 : decode cX4_sort 23 = .ok (.goto 4, 3) := by decide +kernel
theorem dX4_sort_26 : decode cX4_sort 26 = .ok (.iconst 2, 1) := by decide +kernel
theorem dX4_sort_27 : decode cX4_sort 27 = .ok (.ireturn, 1) := by decide +kernel
theorem dX4_isLike_0 : decode cX4_isLike 0 = .ok (.aload_n 0, 1) := by decide +kernel
theorem dX4_isLike_1 : decode cX4_isLike 1 = .ok (.getfield 33, 3) := by decide +kernel
theorem dX4_isLike_4 : decode cX4_isLike 4 = .ok (.aload_n 1, 1) := by decide +kernel
theorem dX4_isLike_5 : decode cX4_isLike 5 = .ok (.getfield 33, 3) := by decide +kernel
theorem dX4_isLike_8 : decode cX4_isLike 8 = .ok (.if_icmp .ne 29, 3) := by decide +kernel
theorem dX4_isLike_11 : decode cX4_isLike 11 = .ok (.aload_n 0, 1) := by decide +kernel
theorem dX4_isLike_12 : decode cX4_isLike 12 = .ok (.getfield 36, 3) := by decide +kernel
theorem dX4_isLike_15 : decode cX4_isLike 15 = .ok (.aload_n 1, 1) := by decide +kernel
theorem dX4_isLike_16 : decode cX4_isLike 16 = .ok (.getfield 36, 3) := by decide +kernel
theorem dX4_isLike_19 : decode cX4_isLike 19 = .ok (.if_icmp .ne 18, 3) := by decide +kernel
theorem dX4_isLike_22 : decode cX4_isLike 22 = .ok (.aload_n 0, 1) := by decide +kernel
theorem dX4_isLike_23 : decode cX4_isLike 23 = .ok (.getfield 39, 3) := by decide +kernel
theorem dX4_isLike_26 : decode cX4_isLike 26 = .ok (.aload_n 1, 1) := by decide +kernel
theorem dX4_isLike_27 : decode cX4_isLike 27 = .ok (.getfield 39, 3) := by decide +kernel
theorem dX4_isLike_30 : decode cX4_isLike 30 = .ok (.if_icmp .ne 7, 3) := by decide +kernel
theorem dX4_isLike_33 : decode cX4_isLike 33 = .ok (.iconst 1, 1) := by decide +kernel
theorem dX4_isLike_34 : decode cX4_isLike 34 = .ok (.goto 4, 3) := by decide +kernel
theorem dX4_isLike_37 : decode cX4_isLike 37 = .ok (.iconst 0, 1) := by decide +kernel
theorem dX4_isLike_38 : decode cX4_isLike 38 = .ok (.ireturn, 1) := by decide +kernel
set_option maxRecDepth 20000 in
theorem ggX4_feature_X4_sort : GoodIn wsX4_feature wsX4_sort := goodIn_r _ [10, 1, 11, 12, 13, 14, 15, 16, 17, 18, 19, 20, 21, 22, 23] rfl (by decide +kernel)
set_option maxRecDepth 20000 in
theorem gX4_feature_X4_sort : GoodIn wsX4_feature (wsV RX4 42 RX4 yX4_sort wsX4_sort) := goodIn_app (goodIn_of _ (by decide +kernel)) ggX4_feature_X4_sort
theorem dX4_feature_0 : decode cX4_feature 0 = .ok (.iload_n 1, 1) := by decide +kernel
theorem dX4_feature_1 : decode cX4_feature 1 = .ok (.tableswitch 60 0 4 #[35, 40, 45, 50, 55], 35) := by decide +kernel
theorem dX4_feature_36 : decode cX4_feature 36 = .ok (.aload_n 0, 1) := by decide +kernel
theorem dX4_feature_37 : decode cX4_feature 37 = .ok (.invokevirtual 42, 3) := by decide +kernel
theorem dX4_feature_40 : decode cX4_feature 40 = .ok (.ireturn, 1) := by decide +kernel
theorem dX4_feature_41 : decode cX4_feature 41 = .ok (.aload_n 0, 1) := by decide +kernel
theorem dX4_feature_42 : decode cX4_feature 42 = .ok (.getfield 24, 3) := by decide +kernel
theorem dX4_feature_45 : decode cX4_feature 45 = .ok (.ireturn, 1) := by decide +kernel
theorem dX4_feature_46 : decode cX4_feature 46 = .ok (.aload_n 0, 1) := by decide +kernel
theorem dX4_feature_47 : decode cX4_feature 47 = .ok (.getfield 9, 3) := by decide +kernel
theorem dX4_feature_50 : decode cX4_feature 50 = .ok (.ireturn, 1) := by decide +kernel
theorem dX4_feature_51 : decode cX4_feature 51 = .ok (.aload_n 0, 1) := by decide +kernel
theorem dX4_feature_52 : decode cX4_feature 52 = .ok (.getfield 15, 3) := by decide +kernel
theorem dX4_feature_55 : decode cX4_feature 55 = .ok (.ireturn, 1) := by decide +kernel
theorem dX4_feature_56 : decode cX4_feature 56 = .ok (.aload_n 0, 1) := by decide +kernel
theorem dX4_feature_57 : decode cX4_feature 57 = .ok (.getfield 18, 3) := by decide +kernel
theorem dX4_feature_60 : decode cX4_feature 60 = .ok (.ireturn, 1) := by decide +kernel
theorem dX4_feature_61 : decode cX4_feature 61 = .ok (.aload_n 0, 1) := by decide +kernel
theorem dX4_feature_62 : decode cX4_feature 62 = .ok (.getfield 46, 3) := by decide +kernel
theorem dX4_feature_65 : decode cX4_feature 65 = .ok (.ifCond .eq 7, 3) := by decide +kernel
theorem dX4_feature_68 : decode cX4_feature 68 = .ok (.iconst 1, 1) := by decide +kernel
theorem dX4_feature_69 : decode cX4_feature 69 = .ok (.goto 4, 3) := by decide +kernel
theorem dX4_feature_72 : decode cX4_feature 72 = .ok (.iconst 0, 1) := by decide +kernel
theorem dX4_feature_73 : decode cX4_feature 73 = .ok (.ireturn, 1) := by decide +kernel
set_option maxRecDepth 20000 in
theorem ggX4_addTo_X4_feature : GoodIn wsX4_addTo wsX4_feature := goodIn_r _ [10, 11, 12, 13, 14, 2, 15, 16, 17, 9, 18, 19, 20, 21, 22, 23, 24, 25, 26, 27, 28, 29, 30, 31] rfl (by decide +kernel)
set_option maxRecDepth 20000 in
theorem gX4_addTo_X4_feature : GoodIn wsX4_addTo (wsV RX4 52 RX4 yX4_feature wsX4_feature) := goodIn_app (goodIn_of _ (by decide +kernel)) ggX4_addTo_X4_feature
theorem dX4_addTo_0 : decode cX4_addTo 0 = .ok (.lload_n 1, 1) := by decide +kernel
theorem dX4_addTo_1 : decode cX4_addTo 1 = .ok (.lstore_n 3, 1) := by decide +kernel
theorem dX4_addTo_2 : decode cX4_addTo 2 = .ok (.iconst 0, 1) := by decide +kernel
theorem dX4_addTo_3 : decode cX4_addTo 3 = .ok (.istore 5, 2) := by decide +kernel
theorem dX4_addTo_5 : decode cX4_addTo 5 = .ok (.iload 5, 2) := by decide +kernel
theorem dX4_addTo_7 : decode cX4_addTo 7 = .ok (.iconst 5, 1) := by decide +kernel
theorem dX4_addTo_8 : decode cX4_addTo 8 = .ok (.if_icmp .gt 23, 3) := by decide +kernel
theorem dX4_addTo_11 : decode cX4_addTo 11 = .ok (.lload_n 3, 1) := by decide +kernel
theorem dX4_addTo_12 : decode cX4_addTo 12 = .ok (.ldc2_w 50, 3) := by decide +kernel
theorem dX4_addTo_15 : decode cX4_addTo 15 = .ok (.lmul, 1) := by decide +kernel
theorem dX4_addTo_16 : decode cX4_addTo 16 = .ok (.aload_n 0, 1) := by decide +kernel
theorem dX4_addTo_17 : decode cX4_addTo 17 = .ok (.iload 5, 2) := by decide +kernel
theorem dX4_addTo_19 : decode cX4_addTo 19 = .ok (.invokevirtual 52, 3) := by decide +kernel
theorem dX4_addTo_22 : decode cX4_addTo 22 = .ok (.i2l, 1) := by decide +kernel
theorem dX4_addTo_23 : decode cX4_addTo 23 = .ok (.ladd, 1) := by decide +kernel
theorem dX4_addTo_24 : decode cX4_addTo 24 = .ok (.lstore_n 3, 1) := by decide +kernel
theorem dX4_addTo_25 : decode cX4_addTo 25 = .ok (.iinc 5 1, 3) := by decide +kernel
theorem dX4_addTo_28 : decode cX4_addTo 28 = .ok (.goto (-23), 3) := by decide +kernel
theorem dX4_addTo_31 : decode cX4_addTo 31 = .ok (.aload_n 0, 1) := by decide +kernel
theorem dX4_addTo_32 : decode cX4_addTo 32 = .ok (.getfield 46, 3) := by decide +kernel
theorem dX4_addTo_35 : decode cX4_addTo 35 = .ok (.ifCond .eq 5, 3) := by decide +kernel
theorem dX4_addTo_38 : decode cX4_addTo 38 = .ok (.lload_n 3, 1) := by decide +kernel
theorem dX4_addTo_39 : decode cX4_addTo 39 = .ok (.lreturn, 1) := by decide +kernel
theorem dX4_addTo_40 : decode cX4_addTo 40 = .ok (.lload_n 3, 1) := by decide +kernel
theorem dX4_addTo_41 : decode cX4_addTo 41 = .ok (.ldc2_w 50, 3) := by decide +kernel
theorem dX4_addTo_44 : decode cX4_addTo 44 = .ok (.lmul, 1) := by decide +kernel
theorem dX4_addTo_45 : decode cX4_addTo 45 = .ok (.aload_n 0, 1) := by decide +kernel
theorem dX4_addTo_46 : decode cX4_addTo 46 = .ok (.getfield 33, 3) := by decide +kernel
theorem dX4_addTo_49 : decode cX4_addTo 49 = .ok (.i2l, 1) := by decide +kernel
theorem dX4_addTo_50 : decode cX4_addTo 50 = .ok (.ladd, 1) := by decide +kernel
theorem dX4_addTo_51 : decode cX4_addTo 51 = .ok (.lstore_n 3, 1) := by decide +kernel
theorem dX4_addTo_52 : decode cX4_addTo 52 = .ok (.lload_n 3, 1) := by decide +kernel
theorem dX4_addTo_53 : decode cX4_addTo 53 = .ok (.ldc2_w 50, 3) := by decide +kernel
theorem dX4_addTo_56 : decode cX4_addTo 56 = .ok (.lmul, 1) := by decide +kernel
theorem dX4_addTo_57 : decode cX4_addTo 57 = .ok (.aload_n 0, 1) := by decide +kernel
theorem dX4_addTo_58 : decode cX4_addTo 58 = .ok (.getfield 36, 3) := by decide +kernel
theorem dX4_addTo_61 : decode cX4_addTo 61 = .ok (.i2l, 1) := by decide +kernel
theorem dX4_addTo_62 : decode cX4_addTo 62 = .ok (.ladd, 1) := by decide +kernel
theorem dX4_addTo_63 : decode cX4_addTo 63 = .ok (.lstore_n 3, 1) := by decide +kernel
theorem dX4_addTo_64 : decode cX4_addTo 64 = .ok (.lload_n 3, 1) := by decide +kernel
theorem dX4_addTo_65 : decode cX4_addTo 65 = .ok (.ldc2_w 50, 3) := by decide +kernel
theorem dX4_addTo_68 : decode cX4_addTo 68 = .ok (.lmul, 1) := by decide +kernel
theorem dX4_addTo_69 : decode cX4_addTo 69 = .ok (.aload_n 0, 1) := by decide +kernel
theorem dX4_addTo_70 : decode cX4_addTo 70 = .ok (.getfield 39, 3) := by decide +kernel
theorem dX4_addTo_73 : decode cX4_addTo 73 = .ok (.i2l, 1) := by decide +kernel
theorem dX4_addTo_74 : decode cX4_addTo 74 = .ok (.ladd, 1) := by decide +kernel
theorem dX4_addTo_75 : decode cX4_addTo 75 = .ok (.lreturn, 1) := by decide +kernel
set_option maxRecDepth 20000 in
theorem ggX5_init_X2_init : GoodIn wsX5_init wsX2_init := goodIn_r _ [16, 17, 2, 3, 18, 19, 20, 21, 22, 11, 12, 23, 24, 25, 26, 27, 28, 29, 30, 31, 32, 33, 34, 35, 36, 37, 38, 59, 60, 61, 40, 41, 46, 47, 48, 49, 50, 51, 52, 53, 54, 55, 56, 57, 58] rfl (by decide +kernel)
set_option maxRecDepth 20000 in
theorem gX5_init_X2_init_n11 : GoodIn wsX5_init (wsX2_init) := ggX5_init_X2_init
set_option maxRecDepth 20000 in
theorem ggX5_init_X4_init : GoodIn wsX5_init wsX4_init := goodIn_r _ [33, 34, 2, 3, 35, 36, 37, 38, 46, 47, 48, 49, 50, 51, 52, 53, 54, 55, 56, 57, 58] rfl (by decide +kernel)
set_option maxRecDepth 20000 in
theorem gX5_init_X4_init : GoodIn wsX5_init (wsX4_init) := ggX5_init_X4_init
theorem dX5_init_0 : decode cX5_init 0 = .ok (.aload_n 0, 1) := by decide +kernel
theorem dX5_init_1 : decode cX5_init 1 = .ok (.invokespecial 3, 3) := by decide +kernel
theorem dX5_init_4 : decode cX5_init 4 = .ok (.aload_n 0, 1) := by decide +kernel
theorem dX5_init_5 : decode cX5_init 5 = .ok (.new 9, 3) := by decide +kernel
theorem dX5_init_8 : decode cX5_init 8 = .ok (.dup, 1) := by decide +kernel
theorem dX5_init_9 : decode cX5_init 9 = .ok (.invokespecial 11, 3) := by decide +kernel
theorem dX5_init_12 : decode cX5_init 12 = .ok (.putfield 12, 3) := by decide +kernel
theorem dX5_init_15 : decode cX5_init 15 = .ok (.aload_n 0, 1) := by decide +kernel
theorem dX5_init_16 : decode cX5_init 16 = .ok (.aload_n 0, 1) := by decide +kernel
theorem dX5_init_17 : decode cX5_init 17 = .ok (.getfield 12, 3) := by decide +kernel
theorem dX5_init_20 : decode cX5_init 20 = .ok (.getfield 18, 3) := by decide +kernel
theorem dX5_init_23 : decode cX5_init 23 = .ok (.putfield 22, 3) := by decide +kernel
theorem dX5_init_26 : decode cX5_init 26 = .ok (.aload_n 0, 1) := by decide +kernel
theorem dX5_init_27 : decode cX5_init 27 = .ok (.new 23, 3) := by decide +kernel
theorem dX5_init_30 : decode cX5_init 30 = .ok (.dup, 1) := by decide +kernel
theorem dX5_init_31 : decode cX5_init 31 = .ok (.iconst (-1), 1) := by decide +kernel
theorem dX5_init_32 : decode cX5_init 32 = .ok (.invokespecial 25, 3) := by decide +kernel
theorem dX5_init_35 : decode cX5_init 35 = .ok (.putfield 28, 3) := by decide +kernel
theorem dX5_init_38 : decode cX5_init 38 = .ok (.aload_n 0, 1) := by decide +kernel
theorem dX5_init_39 : decode cX5_init 39 = .ok (.new 23, 3) := by decide +kernel
theorem dX5_init_42 : decode cX5_init 42 = .ok (.dup, 1) := by decide +kernel
theorem dX5_init_43 : decode cX5_init 43 = .ok (.iconst (-1), 1) := by decide +kernel
theorem dX5_init_44 : decode cX5_init 44 = .ok (.invokespecial 25, 3) := by decide +kernel
theorem dX5_init_47 : decode cX5_init 47 = .ok (.putfield 32, 3) := by decide +kernel
theorem dX5_init_50 : decode cX5_init 50 = .ok (.return_, 1) := by decide +kernel
set_option maxRecDepth 20000 in
theorem ggX5_isTrue_X2_power : GoodIn wsX5_isTrue wsX2_power := goodIn_r _ [9, 10, 11, 12, 13, 14, 15, 16, 17, 18, 19, 20, 21, 22, 23, 94, 95, 81, 82, 83, 84, 85, 86, 87, 88, 89, 90, 91, 92, 93, 96, 97, 98] rfl (by decide +kernel)
set_option maxRecDepth 20000 in
theorem gX5_isTrue_X2_power : GoodIn wsX5_isTrue (wsV RX5 35 RX2 yX2_power wsX2_power) := goodIn_app (goodIn_of _ (by decide +kernel)) ggX5_isTrue_X2_power
set_option maxRecDepth 20000 in
theorem ggX5_isTrue_X5_isOnCircle : GoodIn wsX5_isTrue wsX5_isOnCircle := goodIn_r _ [28, 1, 29, 30, 31, 32, 8, 33, 11, 12, 10, 14, 15, 16, 17, 18, 19, 20, 21, 22, 23, 77, 78, 79, 80, 81, 82, 83, 84, 85, 86, 87, 88, 89, 90, 91, 92, 93, 94, 95, 96, 97, 98] rfl (by decide +kernel)
set_option maxRecDepth 20000 in
theorem gX5_isTrue_X5_isOnCircle : GoodIn wsX5_isTrue (wsV RX5 39 RX5 yX5_isOnCircle wsX5_isOnCircle) := goodIn_app (goodIn_of _ (by decide +kernel)) ggX5_isTrue_X5_isOnCircle
set_option maxRecDepth 20000 in
theorem ggX5_isTrue_X5_areInLine : GoodIn wsX5_isTrue wsX5_areInLine := goodIn_r _ [37, 2, 3, 4, 38, 15, 16, 17, 18, 19, 20, 21, 22, 23, 77, 78, 79, 80, 81, 82, 83, 84, 85, 86, 87, 88, 89, 90, 91, 92, 93, 96, 97, 98] rfl (by decide +kernel)
set_option maxRecDepth 20000 in
theorem gX5_isTrue_X5_areInLine : GoodIn wsX5_isTrue (wsV RX5 43 RX5 yX5_areInLine wsX5_areInLine) := goodIn_app (goodIn_of _ (by decide +kernel)) ggX5_isTrue_X5_areInLine
set_option maxRecDepth 20000 in
theorem ggX5_isTrue_X5_areParallel : GoodIn wsX5_isTrue wsX5_areParallel := goodIn_r _ [41, 3, 4, 81, 82, 83, 84, 85, 86, 87, 88, 89, 90, 91, 92, 93] rfl (by decide +kernel)
set_option maxRecDepth 20000 in
theorem gX5_isTrue_X5_areParallel : GoodIn wsX5_isTrue (va_wsS RX5 47 yX5_areParallel wsX5_areParallel) := goodIn_app (goodIn_of _ (by decide +kernel)) ggX5_isTrue_X5_areParallel
set_option maxRecDepth 20000 in
theorem ggX5_isTrue_X3_rest : GoodIn wsX5_isTrue wsX3_rest := goodIn_r _ [18, 19, 20, 21, 22, 23, 96, 97, 98] rfl (by decide +kernel)
set_option maxRecDepth 20000 in
theorem gX5_isTrue_X3_rest : GoodIn wsX5_isTrue (wsV RX5 57 RX3 yX3_rest wsX3_rest) := goodIn_app (goodIn_of _ (by decide +kernel)) ggX5_isTrue_X3_rest
set_option maxRecDepth 20000 in
theorem ggX5_isTrue_X2_squareOf : GoodIn wsX5_isTrue wsX2_squareOf := goodIn_r _ [33, 11, 12, 10, 14, 15, 16, 17, 18, 19, 20, 21, 22, 23, 81, 82, 83, 84, 85, 86, 87, 88, 89, 90, 91, 92, 93, 94, 95, 96, 97, 98] rfl (by decide +kernel)
set_option maxRecDepth 20000 in
theorem gX5_isTrue_X2_squareOf : GoodIn wsX5_isTrue (wsV RX5 63 RX2 yX2_squareOf wsX2_squareOf) := goodIn_app (goodIn_of _ (by decide +kernel)) ggX5_isTrue_X2_squareOf
set_option maxRecDepth 20000 in
theorem ggX5_isTrue_X4_isLike : GoodIn wsX5_isTrue wsX4_isLike := goodIn_r _ [46, 47, 48, 49, 81, 82, 83, 84, 85, 86, 87, 88, 89, 90, 91, 92, 93] rfl (by decide +kernel)
set_option maxRecDepth 20000 in
theorem gX5_isTrue_X4_isLike : GoodIn wsX5_isTrue (wsV RX5 66 RX4 yX4_isLike wsX4_isLike) := goodIn_app (goodIn_of _ (by decide +kernel)) ggX5_isTrue_X4_isLike
set_option maxRecDepth 20000 in
theorem ggX5_isTrue_X5_shareAPlace : GoodIn wsX5_isTrue wsX5_shareAPlace := goodIn_r _ [53, 1, 54, 39, 40, 27, 41, 3, 4, 42, 43, 44, 45, 46, 47, 48, 49, 55, 56, 57, 8, 58, 10, 11, 12, 13, 14, 15, 16, 17, 18, 19, 20, 21, 22, 23, 59, 60, 61, 62, 63, 64, 65, 66, 67, 68, 69, 70, 71, 72, 73, 74, 75, 76, 5, 6, 7, 9, 77, 78, 79, 80, 81, 82, 83, 84, 85, 86, 87, 88, 89, 90, 91, 92, 93, 94, 95, 96, 97, 98] rfl (by decide +kernel)
set_option maxRecDepth 20000 in
theorem gX5_isTrue_X5_shareAPlace : GoodIn wsX5_isTrue (wsV RX5 70 RX5 yX5_shareAPlace wsX5_shareAPlace) := goodIn_app (goodIn_of _ (by decide +kernel)) ggX5_isTrue_X5_shareAPlace
theorem dX5_isTrue_0 : decode cX5_isTrue 0 = .ok (.iload_n 1, 1) := by decide +kernel
theorem dX5_isTrue_1 : decode cX5_isTrue 1 = .ok (.tableswitch 166 0 7 #[47, 65, 72, 81, 87, 122, 151, 157], 47) := by decide +kernel
theorem dX5_isTrue_48 : decode cX5_isTrue 48 = .ok (.aload_n 0, 1) := by decide +kernel
theorem dX5_isTrue_49 : decode cX5_isTrue 49 = .ok (.getfield 12, 3) := by decide +kernel
theorem dX5_isTrue_52 : decode cX5_isTrue 52 = .ok (.aload_n 2, 1) := by decide +kernel
theorem dX5_isTrue_53 : decode cX5_isTrue 53 = .ok (.aload_n 3, 1) := by decide +kernel
theorem dX5_isTrue_54 : decode cX5_isTrue 54 = .ok (.invokevirtual 35, 3) := by decide +kernel
theorem dX5_isTrue_57 : decode cX5_isTrue 57 = .ok (.ifCond .ne 7, 3) := by decide +kernel
theorem dX5_isTrue_60 : decode cX5_isTrue 60 = .ok (.iconst 1, 1) := by decide +kernel
theorem dX5_isTrue_61 : decode cX5_isTrue 61 = .ok (.goto 4, 3) := by decide +kernel
theorem dX5_isTrue_64 : decode cX5_isTrue 64 = .ok (.iconst 0, 1) := by decide +kernel
theorem dX5_isTrue_65 : decode cX5_isTrue 65 = .ok (.ireturn, 1) := by decide +kernel
theorem dX5_isTrue_66 : decode cX5_isTrue 66 = .ok (.aload_n 0, 1) := by decide +kernel
theorem dX5_isTrue_67 : decode cX5_isTrue 67 = .ok (.aload_n 2, 1) := by decide +kernel
theorem dX5_isTrue_68 : decode cX5_isTrue 68 = .ok (.aload_n 3, 1) := by decide +kernel
theorem dX5_isTrue_69 : decode cX5_isTrue 69 = .ok (.invokevirtual 39, 3) := by decide +kernel
theorem dX5_isTrue_72 : decode cX5_isTrue 72 = .ok (.ireturn, 1) := by decide +kernel
theorem dX5_isTrue_73 : decode cX5_isTrue 73 = .ok (.aload_n 0, 1) := by decide +kernel
theorem dX5_isTrue_74 : decode cX5_isTrue 74 = .ok (.aload_n 2, 1) := by decide +kernel
theorem dX5_isTrue_75 : decode cX5_isTrue 75 = .ok (.aload_n 3, 1) := by decide +kernel
theorem dX5_isTrue_76 : decode cX5_isTrue 76 = .ok (.aload 4, 2) := by decide +kernel
theorem dX5_isTrue_78 : decode cX5_isTrue 78 = .ok (.invokevirtual 43, 3) := by decide +kernel
theorem dX5_isTrue_81 : decode cX5_isTrue 81 = .ok (.ireturn, 1) := by decide +kernel
theorem dX5_isTrue_82 : decode cX5_isTrue 82 = .ok (.aload_n 2, 1) := by decide +kernel
theorem dX5_isTrue_83 : decode cX5_isTrue 83 = .ok (.aload_n 3, 1) := by decide +kernel
theorem dX5_isTrue_84 : decode cX5_isTrue 84 = .ok (.invokestatic 47, 3) := by decide +kernel
theorem dX5_isTrue_87 : decode cX5_isTrue 87 = .ok (.ireturn, 1) := by decide +kernel
theorem dX5_isTrue_88 : decode cX5_isTrue 88 = .ok (.aload_n 0, 1) := by decide +kernel
theorem dX5_isTrue_89 : decode cX5_isTrue 89 = .ok (.getfield 22, 3) := by decide +kernel
theorem dX5_isTrue_92 : decode cX5_isTrue 92 = .ok (.aload_n 2, 1) := by decide +kernel
theorem dX5_isTrue_93 : decode cX5_isTrue 93 = .ok (.getfield 50, 3) := by decide +kernel
theorem dX5_isTrue_96 : decode cX5_isTrue 96 = .ok (.aload_n 3, 1) := by decide +kernel
theorem dX5_isTrue_97 : decode cX5_isTrue 97 = .ok (.getfield 50, 3) := by decide +kernel
theorem dX5_isTrue_100 : decode cX5_isTrue 100 = .ok (.imul, 1) := by decide +kernel
theorem dX5_isTrue_101 : decode cX5_isTrue 101 = .ok (.aload_n 2, 1) := by decide +kernel
theorem dX5_isTrue_102 : decode cX5_isTrue 102 = .ok (.getfield 54, 3) := by decide +kernel
theorem dX5_isTrue_105 : decode cX5_isTrue 105 = .ok (.aload_n 3, 1) := by decide +kernel
theorem dX5_isTrue_106 : decode cX5_isTrue 106 = .ok (.getfield 54, 3) := by decide +kernel
theorem dX5_isTrue_109 : decode cX5_isTrue 109 = .ok (.imul, 1) := by decide +kernel
theorem dX5_isTrue_110 : decode cX5_isTrue 110 = .ok (.iadd, 1) := by decide +kernel
theorem dX5_isTrue_111 : decode cX5_isTrue 111 = .ok (.invokevirtual 57, 3) := by decide +kernel
theorem dX5_isTrue_114 : decode cX5_isTrue 114 = .ok (.ifCond .ne 7, 3) := by decide +kernel
theorem dX5_isTrue_117 : decode cX5_isTrue 117 = .ok (.iconst 1, 1) := by decide +kernel
theorem dX5_isTrue_118 : decode cX5_isTrue 118 = .ok (.goto 4, 3) := by decide +kernel
theorem dX5_isTrue_121 : decode cX5_isTrue 121 = .ok (.iconst 0, 1) := by decide +kernel
theorem dX5_isTrue_122 : decode cX5_isTrue 122 = .ok (.ireturn, 1) := by decide +kernel
theorem dX5_isTrue_123 : decode cX5_isTrue 123 = .ok (.aload_n 0, 1) := by decide +kernel
theorem dX5_isTrue_124 : decode cX5_isTrue 124 = .ok (.getfield 12, 3) := by decide +kernel
theorem dX5_isTrue_127 : decode cX5_isTrue 127 = .ok (.aload_n 2, 1) := by decide +kernel
theorem dX5_isTrue_128 : decode cX5_isTrue 128 = .ok (.aload_n 3, 1) := by decide +kernel
theorem dX5_isTrue_129 : decode cX5_isTrue 129 = .ok (.invokevirtual 63, 3) := by decide +kernel
theorem dX5_isTrue_132 : decode cX5_isTrue 132 = .ok (.aload_n 0, 1) := by decide +kernel
theorem dX5_isTrue_133 : decode cX5_isTrue 133 = .ok (.getfield 12, 3) := by decide +kernel
theorem dX5_isTrue_136 : decode cX5_isTrue 136 = .ok (.aload 4, 2) := by decide +kernel
theorem dX5_isTrue_138 : decode cX5_isTrue 138 = .ok (.aload 5, 2) := by decide +kernel
theorem dX5_isTrue_140 : decode cX5_isTrue 140 = .ok (.invokevirtual 63, 3) := by decide +kernel
theorem dX5_isTrue_143 : decode cX5_isTrue 143 = .ok (.if_icmp .ne 7, 3) := by decide +kernel
theorem dX5_isTrue_146 : decode cX5_isTrue 146 = .ok (.iconst 1, 1) := by decide +kernel
theorem dX5_isTrue_147 : decode cX5_isTrue 147 = .ok (.goto 4, 3) := by decide +kernel
theorem dX5_isTrue_150 : decode cX5_isTrue 150 = .ok (.iconst 0, 1) := by decide +kernel
theorem dX5_isTrue_151 : decode cX5_isTrue 151 = .ok (.ireturn, 1) := by decide +kernel
theorem dX5_isTrue_152 : decode cX5_isTrue 152 = .ok (.aload_n 2, 1) := by decide +kernel
theorem dX5_isTrue_153 : decode cX5_isTrue 153 = .ok (.aload_n 3, 1) := by decide +kernel
theorem dX5_isTrue_154 : decode cX5_isTrue 154 = .ok (.invokevirtual 66, 3) := by decide +kernel
theorem dX5_isTrue_157 : decode cX5_isTrue 157 = .ok (.ireturn, 1) := by decide +kernel
theorem dX5_isTrue_158 : decode cX5_isTrue 158 = .ok (.aload_n 0, 1) := by decide +kernel
theorem dX5_isTrue_159 : decode cX5_isTrue 159 = .ok (.aload_n 2, 1) := by decide +kernel
theorem dX5_isTrue_160 : decode cX5_isTrue 160 = .ok (.aload_n 3, 1) := by decide +kernel
theorem dX5_isTrue_161 : decode cX5_isTrue 161 = .ok (.aload 4, 2) := by decide +kernel
theorem dX5_isTrue_163 : decode cX5_isTrue 163 = .ok (.invokevirtual 70, 3) := by decide +kernel
theorem dX5_isTrue_166 : decode cX5_isTrue 166 = .ok (.ireturn, 1) := by decide +kernel
theorem dX5_isTrue_167 : decode cX5_isTrue 167 = .ok (.iconst 0, 1) := by decide +kernel
theorem dX5_isTrue_168 : decode cX5_isTrue 168 = .ok (.ireturn, 1) := by decide +kernel
set_option maxRecDepth 20000 in
theorem ggX5_isOnCircle_X2_squareOf : GoodIn wsX5_isOnCircle wsX2_squareOf := goodIn_r _ [7, 8, 9, 10, 11, 12, 13, 14, 15, 16, 17, 18, 19, 20, 25, 26, 27, 28, 29, 30, 31, 32, 33, 34, 35, 36, 37, 38, 39, 40, 41, 42] rfl (by decide +kernel)
set_option maxRecDepth 20000 in
theorem gX5_isOnCircle_X2_squareOf : GoodIn wsX5_isOnCircle (wsV RX5 63 RX2 yX2_squareOf wsX2_squareOf) := goodIn_app (goodIn_of _ (by decide +kernel)) ggX5_isOnCircle_X2_squareOf
theorem dX5_isOnCircle_0 : decode cX5_isOnCircle 0 = .ok (.aload_n 0, 1) := by decide +kernel
theorem dX5_isOnCircle_1 : decode cX5_isOnCircle 1 = .ok (.getfield 12, 3) := by decide +kernel
theorem dX5_isOnCircle_4 : decode cX5_isOnCircle 4 = .ok (.aload_n 1, 1) := by decide +kernel
theorem dX5_isOnCircle_5 : decode cX5_isOnCircle 5 = .ok (.aload_n 2, 1) := by decide +kernel
theorem dX5_isOnCircle_6 : decode cX5_isOnCircle 6 = .ok (.invokevirtual 63, 3) := by decide +kernel
theorem dX5_isOnCircle_9 : decode cX5_isOnCircle 9 = .ok (.aload_n 2, 1) := by decide +kernel
theorem dX5_isOnCircle_10 : decode cX5_isOnCircle 10 = .ok (.getfield 73, 3) := by decide +kernel
theorem dX5_isOnCircle_13 : decode cX5_isOnCircle 13 = .ok (.if_icmp .ne 7, 3) := by decide +kernel
theorem dX5_isOnCircle_16 : decode cX5_isOnCircle 16 = .ok (.iconst 1, 1) := by decide +kernel
theorem dX5_isOnCircle_17 : decode cX5_isOnCircle 17 = .ok (.goto 4, 3) := by decide +kernel
theorem dX5_isOnCircle_20 : decode cX5_isOnCircle 20 = .ok (.iconst 0, 1) := by decide +kernel
theorem dX5_isOnCircle_21 : decode cX5_isOnCircle 21 = .ok (.ireturn, 1) := by decide +kernel
set_option maxRecDepth 20000 in
theorem ggX5_areInLine_X3_rest : GoodIn wsX5_areInLine wsX3_rest := goodIn_r _ [8, 9, 10, 11, 12, 13, 31, 32, 33] rfl (by decide +kernel)
set_option maxRecDepth 20000 in
theorem gX5_areInLine_X3_rest : GoodIn wsX5_areInLine (wsV RX5 57 RX3 yX3_rest wsX3_rest) := goodIn_app (goodIn_of _ (by decide +kernel)) ggX5_areInLine_X3_rest
theorem dX5_areInLine_0 : decode cX5_areInLine 0 = .ok (.aload_n 0, 1) := by decide +kernel
theorem dX5_areInLine_1 : decode cX5_areInLine 1 = .ok (.getfield 22, 3) := by decide +kernel
theorem dX5_areInLine_4 : decode cX5_areInLine 4 = .ok (.aload_n 2, 1) := by decide +kernel
theorem dX5_areInLine_5 : decode cX5_areInLine 5 = .ok (.getfield 50, 3) := by decide +kernel
theorem dX5_areInLine_8 : decode cX5_areInLine 8 = .ok (.aload_n 1, 1) := by decide +kernel
theorem dX5_areInLine_9 : decode cX5_areInLine 9 = .ok (.getfield 50, 3) := by decide +kernel
theorem dX5_areInLine_12 : decode cX5_areInLine 12 = .ok (.isub, 1) := by decide +kernel
theorem dX5_areInLine_13 : decode cX5_areInLine 13 = .ok (.aload_n 3, 1) := by decide +kernel
theorem dX5_areInLine_14 : decode cX5_areInLine 14 = .ok (.getfield 54, 3) := by decide +kernel
theorem dX5_areInLine_17 : decode cX5_areInLine 17 = .ok (.aload_n 1, 1) := by decide +kernel
theorem dX5_areInLine_18 : decode cX5_areInLine 18 = .ok (.getfield 54, 3) := by decide +kernel
theorem dX5_areInLine_21 : decode cX5_areInLine 21 = .ok (.isub, 1) := by decide +kernel
theorem dX5_areInLine_22 : decode cX5_areInLine 22 = .ok (.imul, 1) := by decide +kernel
theorem dX5_areInLine_23 : decode cX5_areInLine 23 = .ok (.aload_n 3, 1) := by decide +kernel
theorem dX5_areInLine_24 : decode cX5_areInLine 24 = .ok (.getfield 50, 3) := by decide +kernel
theorem dX5_areInLine_27 : decode cX5_areInLine 27 = .ok (.aload_n 1, 1) := by decide +kernel
theorem dX5_areInLine_28 : decode cX5_areInLine 28 = .ok (.getfield 50, 3) := by decide +kernel
theorem dX5_areInLine_31 : decode cX5_areInLine 31 = .ok (.isub, 1) := by decide +kernel
theorem dX5_areInLine_32 : decode cX5_areInLine 32 = .ok (.aload_n 2, 1) := by decide +kernel
theorem dX5_areInLine_33 : decode cX5_areInLine 33 = .ok (.getfield 54, 3) := by decide +kernel
theorem dX5_areInLine_36 : decode cX5_areInLine 36 = .ok (.aload_n 1, 1) := by decide +kernel
theorem dX5_areInLine_37 : decode cX5_areInLine 37 = .ok (.getfield 54, 3) := by decide +kernel
theorem dX5_areInLine_40 : decode cX5_areInLine 40 = .ok (.isub, 1) := by decide +kernel
theorem dX5_areInLine_41 : decode cX5_areInLine 41 = .ok (.imul, 1) := by decide +kernel
theorem dX5_areInLine_42 : decode cX5_areInLine 42 = .ok (.isub, 1) := by decide +kernel
theorem dX5_areInLine_43 : decode cX5_areInLine 43 = .ok (.invokevirtual 57, 3) := by decide +kernel
theorem dX5_areInLine_46 : decode cX5_areInLine 46 = .ok (.ifCond .ne 7, 3) := by decide +kernel
theorem dX5_areInLine_49 : decode cX5_areInLine 49 = .ok (.iconst 1, 1) := by decide +kernel
theorem dX5_areInLine_50 : decode cX5_areInLine 50 = .ok (.goto 4, 3) := by decide +kernel
theorem dX5_areInLine_53 : decode cX5_areInLine 53 = .ok (.iconst 0, 1) := by decide +kernel
theorem dX5_areInLine_54 : decode cX5_areInLine 54 = .ok (.ireturn, 1) := by decide +kernel
theorem dX5_areParallel_0 : decode cX5_areParallel 0 = .ok (.aload_n 0, 1) := by decide +kernel
theorem dX5_areParallel_1 : decode cX5_areParallel 1 = .ok (.getfield 50, 3) := by decide +kernel
theorem dX5_areParallel_4 : decode cX5_areParallel 4 = .ok (.aload_n 1, 1) := by decide +kernel
theorem dX5_areParallel_5 : decode cX5_areParallel 5 = .ok (.getfield 50, 3) := by decide +kernel
theorem dX5_areParallel_8 : decode cX5_areParallel 8 = .ok (.if_icmp .ne 18, 3) := by decide +kernel
theorem dX5_areParallel_11 : decode cX5_areParallel 11 = .ok (.aload_n 0, 1) := by decide +kernel
theorem dX5_areParallel_12 : decode cX5_areParallel 12 = .ok (.getfield 54, 3) := by decide +kernel
theorem dX5_areParallel_15 : decode cX5_areParallel 15 = .ok (.aload_n 1, 1) := by decide +kernel
theorem dX5_areParallel_16 : decode cX5_areParallel 16 = .ok (.getfield 54, 3) := by decide +kernel
theorem dX5_areParallel_19 : decode cX5_areParallel 19 = .ok (.if_icmp .ne 7, 3) := by decide +kernel
theorem dX5_areParallel_22 : decode cX5_areParallel 22 = .ok (.iconst 1, 1) := by decide +kernel
theorem dX5_areParallel_23 : decode cX5_areParallel 23 = .ok (.goto 4, 3) := by decide +kernel
theorem dX5_areParallel_26 : decode cX5_areParallel 26 = .ok (.iconst 0, 1) := by decide +kernel
theorem dX5_areParallel_27 : decode cX5_areParallel 27 = .ok (.ireturn, 1) := by decide +kernel
set_option maxRecDepth 20000 in
theorem ggX5_shareAPlace_X5_areParallel : GoodIn wsX5_shareAPlace wsX5_areParallel := goodIn_r _ [6, 7, 8, 62, 63, 64, 65, 66, 67, 68, 69, 70, 71, 72, 73, 74] rfl (by decide +kernel)
set_option maxRecDepth 20000 in
theorem gX5_shareAPlace_X5_areParallel : GoodIn wsX5_shareAPlace (va_wsS RX5 47 yX5_areParallel wsX5_areParallel) := goodIn_app (goodIn_of _ (by decide +kernel)) ggX5_shareAPlace_X5_areParallel
set_option maxRecDepth 20000 in
theorem ggX5_shareAPlace_X4_isLike : GoodIn wsX5_shareAPlace wsX4_isLike := goodIn_r _ [13, 14, 15, 16, 62, 63, 64, 65, 66, 67, 68, 69, 70, 71, 72, 73, 74] rfl (by decide +kernel)
set_option maxRecDepth 20000 in
theorem gX5_shareAPlace_X4_isLike : GoodIn wsX5_shareAPlace (wsV RX5 66 RX4 yX4_isLike wsX4_isLike) := goodIn_app (goodIn_of _ (by decide +kernel)) ggX5_shareAPlace_X4_isLike
set_option maxRecDepth 20000 in
theorem ggX5_shareAPlace_X2_intersection : GoodIn wsX5_shareAPlace wsX2_intersection := goodIn_r _ [21, 22, 23, 24, 25, 26, 27, 28, 29, 30, 31, 32, 33, 34, 35, 36, 37, 38, 39, 40, 41, 42, 43, 44, 45, 46, 47, 48, 20, 49, 50, 51, 52, 12, 53, 14, 15, 16, 75, 76, 62, 63, 64, 65, 66, 67, 68, 69, 70, 71, 72, 73, 74, 77, 78, 79] rfl (by decide +kernel)
set_option maxRecDepth 20000 in
theorem gX5_shareAPlace_X2_intersection : GoodIn wsX5_shareAPlace (wsV RX5 76 RX2 yX2_intersection wsX2_intersection) := goodIn_app (goodIn_of _ (by decide +kernel)) ggX5_shareAPlace_X2_intersection
set_option maxRecDepth 20000 in
theorem ggX5_shareAPlace_X2_power : GoodIn wsX5_shareAPlace wsX2_power := goodIn_r _ [57, 22, 23, 24, 25, 26, 27, 28, 29, 30, 31, 32, 33, 34, 35, 75, 76, 62, 63, 64, 65, 66, 67, 68, 69, 70, 71, 72, 73, 74, 77, 78, 79] rfl (by decide +kernel)
set_option maxRecDepth 20000 in
theorem gX5_shareAPlace_X2_power : GoodIn wsX5_shareAPlace (wsV RX5 35 RX2 yX2_power wsX2_power) := goodIn_app (goodIn_of _ (by decide +kernel)) ggX5_shareAPlace_X2_power
theorem dX5_shareAPlace_0 : decode cX5_shareAPlace 0 = .ok (.aload_n 1, 1) := by decide +kernel
theorem dX5_shareAPlace_1 : decode cX5_shareAPlace 1 = .ok (.aload_n 2, 1) := by decide +kernel
theorem dX5_shareAPlace_2 : decode cX5_shareAPlace 2 = .ok (.invokestatic 47, 3) := by decide +kernel
theorem dX5_shareAPlace_5 : decode cX5_shareAPlace 5 = .ok (.ifCond .eq 33, 3) := by decide +kernel
theorem dX5_shareAPlace_8 : decode cX5_shareAPlace 8 = .ok (.aload_n 1, 1) := by decide +kernel
theorem dX5_shareAPlace_9 : decode cX5_shareAPlace 9 = .ok (.aload_n 2, 1) := by decide +kernel
theorem dX5_shareAPlace_10 : decode cX5_shareAPlace 10 = .ok (.invokevirtual 66, 3) := by decide +kernel
theorem dX5_shareAPlace_13 : decode cX5_shareAPlace 13 = .ok (.ifCond .eq 23, 3) := by decide +kernel
theorem dX5_shareAPlace_16 : decode cX5_shareAPlace 16 = .ok (.aload_n 1, 1) := by decide +kernel
theorem dX5_shareAPlace_17 : decode cX5_shareAPlace 17 = .ok (.aload_n 3, 1) := by decide +kernel
theorem dX5_shareAPlace_18 : decode cX5_shareAPlace 18 = .ok (.invokestatic 47, 3) := by decide +kernel
theorem dX5_shareAPlace_21 : decode cX5_shareAPlace 21 = .ok (.ifCond .eq 11, 3) := by decide +kernel
theorem dX5_shareAPlace_24 : decode cX5_shareAPlace 24 = .ok (.aload_n 1, 1) := by decide +kernel
theorem dX5_shareAPlace_25 : decode cX5_shareAPlace 25 = .ok (.aload_n 3, 1) := by decide +kernel
theorem dX5_shareAPlace_26 : decode cX5_shareAPlace 26 = .ok (.invokevirtual 66, 3) := by decide +kernel
theorem dX5_shareAPlace_29 : decode cX5_shareAPlace 29 = .ok (.ifCond .eq 7, 3) := by decide +kernel
theorem dX5_shareAPlace_32 : decode cX5_shareAPlace 32 = .ok (.iconst 1, 1) := by decide +kernel
theorem dX5_shareAPlace_33 : decode cX5_shareAPlace 33 = .ok (.goto 4, 3) := by decide +kernel
theorem dX5_shareAPlace_36 : decode cX5_shareAPlace 36 = .ok (.iconst 0, 1) := by decide +kernel
theorem dX5_shareAPlace_37 : decode cX5_shareAPlace 37 = .ok (.ireturn, 1) := by decide +kernel
theorem dX5_shareAPlace_38 : decode cX5_shareAPlace 38 = .ok (.aload_n 0, 1) := by decide +kernel
theorem dX5_shareAPlace_39 : decode cX5_shareAPlace 39 = .ok (.getfield 12, 3) := by decide +kernel
theorem dX5_shareAPlace_42 : decode cX5_shareAPlace 42 = .ok (.aload_n 0, 1) := by decide +kernel
theorem dX5_shareAPlace_43 : decode cX5_shareAPlace 43 = .ok (.getfield 28, 3) := by decide +kernel
theorem dX5_shareAPlace_46 : decode cX5_shareAPlace 46 = .ok (.aload_n 1, 1) := by decide +kernel
theorem dX5_shareAPlace_47 : decode cX5_shareAPlace 47 = .ok (.aload_n 2, 1) := by decide +kernel
theorem dX5_shareAPlace_48 : decode cX5_shareAPlace 48 = .ok (.invokevirtual 76, 3) := by decide +kernel
theorem dX5_shareAPlace_51 : decode cX5_shareAPlace 51 = .ok (.ifCond .eq 22, 3) := by decide +kernel
theorem dX5_shareAPlace_54 : decode cX5_shareAPlace 54 = .ok (.aload_n 0, 1) := by decide +kernel
theorem dX5_shareAPlace_55 : decode cX5_shareAPlace 55 = .ok (.getfield 12, 3) := by decide +kernel
theorem dX5_shareAPlace_58 : decode cX5_shareAPlace 58 = .ok (.aload_n 0, 1) := by decide +kernel
theorem dX5_shareAPlace_59 : decode cX5_shareAPlace 59 = .ok (.getfield 28, 3) := by decide +kernel
theorem dX5_shareAPlace_62 : decode cX5_shareAPlace 62 = .ok (.aload_n 3, 1) := by decide +kernel
theorem dX5_shareAPlace_63 : decode cX5_shareAPlace 63 = .ok (.invokevirtual 35, 3) := by decide +kernel
theorem dX5_shareAPlace_66 : decode cX5_shareAPlace 66 = .ok (.ifCond .ne 7, 3) := by decide +kernel
theorem dX5_shareAPlace_69 : decode cX5_shareAPlace 69 = .ok (.iconst 1, 1) := by decide +kernel
theorem dX5_shareAPlace_70 : decode cX5_shareAPlace 70 = .ok (.goto 4, 3) := by decide +kernel
theorem dX5_shareAPlace_73 : decode cX5_shareAPlace 73 = .ok (.iconst 0, 1) := by decide +kernel
theorem dX5_shareAPlace_74 : decode cX5_shareAPlace 74 = .ok (.ireturn, 1) := by decide +kernel
set_option maxRecDepth 20000 in
theorem ggX5_shapeOf_X5_allAreInLine : GoodIn wsX5_shapeOf wsX5_allAreInLine := goodIn_r _ [6, 1, 7, 8, 9, 10, 11, 12, 13, 14, 15, 16, 17, 5, 18, 19, 20, 21, 22, 23, 24, 25, 26, 27, 28, 29, 30, 31, 79, 80, 81, 82, 83, 84, 85, 86, 87, 88, 89, 90, 91, 92, 93, 94, 95, 96, 97, 98, 99, 100, 101] rfl (by decide +kernel)
set_option maxRecDepth 20000 in
theorem gX5_shapeOf_X5_allAreInLine : GoodIn wsX5_shapeOf (wsV RX5 84 RX5 yX5_allAreInLine wsX5_allAreInLine) := goodIn_app (goodIn_of _ (by decide +kernel)) ggX5_shapeOf_X5_allAreInLine
set_option maxRecDepth 20000 in
theorem ggX5_shapeOf_X5_allAreOnCircle : GoodIn wsX5_shapeOf wsX5_allAreOnCircle := goodIn_r _ [35, 36, 37, 1, 7, 8, 9, 10, 11, 12, 13, 14, 38, 39, 40, 41, 42, 43, 44, 45, 46, 23, 24, 25, 26, 27, 28, 29, 30, 31, 47, 48, 49, 50, 51, 52, 53, 54, 55, 56, 57, 58, 59, 60, 61, 62, 63, 64, 65, 66, 67, 68, 69, 70, 71, 72, 5, 73, 74, 75, 76, 77, 78, 82, 83, 84, 85, 79, 80, 81, 86, 87, 88, 89, 90, 91, 92, 93, 94, 95, 96, 97, 98, 102, 103, 99, 100, 101] rfl (by decide +kernel)
set_option maxRecDepth 20000 in
theorem gX5_shapeOf_X5_allAreOnCircle : GoodIn wsX5_shapeOf (wsV RX5 88 RX5 yX5_allAreOnCircle wsX5_allAreOnCircle) := goodIn_app (goodIn_of _ (by decide +kernel)) ggX5_shapeOf_X5_allAreOnCircle
theorem dX5_shapeOf_0 : decode cX5_shapeOf 0 = .ok (.aload_n 1, 1) := by decide +kernel
theorem dX5_shapeOf_1 : decode cX5_shapeOf 1 = .ok (.getfield 79, 3) := by decide +kernel
theorem dX5_shapeOf_4 : decode cX5_shapeOf 4 = .ok (.iconst 2, 1) := by decide +kernel
theorem dX5_shapeOf_5 : decode cX5_shapeOf 5 = .ok (.if_icmp .gt 5, 3) := by decide +kernel
theorem dX5_shapeOf_8 : decode cX5_shapeOf 8 = .ok (.iconst 0, 1) := by decide +kernel
theorem dX5_shapeOf_9 : decode cX5_shapeOf 9 = .ok (.ireturn, 1) := by decide +kernel
theorem dX5_shapeOf_10 : decode cX5_shapeOf 10 = .ok (.aload_n 0, 1) := by decide +kernel
theorem dX5_shapeOf_11 : decode cX5_shapeOf 11 = .ok (.aload_n 1, 1) := by decide +kernel
theorem dX5_shapeOf_12 : decode cX5_shapeOf 12 = .ok (.invokevirtual 84, 3) := by decide +kernel
theorem dX5_shapeOf_15 : decode cX5_shapeOf 15 = .ok (.ifCond .eq 5, 3) := by decide +kernel
theorem dX5_shapeOf_18 : decode cX5_shapeOf 18 = .ok (.iconst 1, 1) := by decide +kernel
theorem dX5_shapeOf_19 : decode cX5_shapeOf 19 = .ok (.ireturn, 1) := by decide +kernel
theorem dX5_shapeOf_20 : decode cX5_shapeOf 20 = .ok (.aload_n 0, 1) := by decide +kernel
theorem dX5_shapeOf_21 : decode cX5_shapeOf 21 = .ok (.aload_n 1, 1) := by decide +kernel
theorem dX5_shapeOf_22 : decode cX5_shapeOf 22 = .ok (.invokevirtual 88, 3) := by decide +kernel
theorem dX5_shapeOf_25 : decode cX5_shapeOf 25 = .ok (.ifCond .eq 7, 3) := by decide +kernel
theorem dX5_shapeOf_28 : decode cX5_shapeOf 28 = .ok (.iconst 2, 1) := by decide +kernel
theorem dX5_shapeOf_29 : decode cX5_shapeOf 29 = .ok (.goto 4, 3) := by decide +kernel
theorem dX5_shapeOf_32 : decode cX5_shapeOf 32 = .ok (.iconst 3, 1) := by decide +kernel
theorem dX5_shapeOf_33 : decode cX5_shapeOf 33 = .ok (.ireturn, 1) := by decide +kernel
set_option maxRecDepth 20000 in
theorem ggX5_allAreInLine_X6_at : GoodIn wsX5_allAreInLine wsX6_at := goodIn_r _ [6, 7, 8, 9, 28, 29, 30] rfl (by decide +kernel)
set_option maxRecDepth 20000 in
theorem gX5_allAreInLine_X6_at : GoodIn wsX5_allAreInLine (wsV RX5 91 RX6 yX6_at wsX6_at) := goodIn_app (goodIn_of _ (by decide +kernel)) ggX5_allAreInLine_X6_at
set_option maxRecDepth 20000 in
theorem ggX5_allAreInLine_X5_areInLine : GoodIn wsX5_allAreInLine wsX5_areInLine := goodIn_r _ [14, 15, 16, 17, 18, 19, 20, 21, 22, 23, 24, 25, 26, 27, 31, 32, 33, 34, 35, 36, 37, 38, 39, 40, 41, 42, 43, 44, 45, 46, 47, 48, 49, 50] rfl (by decide +kernel)
set_option maxRecDepth 20000 in
theorem gX5_allAreInLine_X5_areInLine : GoodIn wsX5_allAreInLine (wsV RX5 43 RX5 yX5_areInLine wsX5_areInLine) := goodIn_app (goodIn_of _ (by decide +kernel)) ggX5_allAreInLine_X5_areInLine
theorem dX5_allAreInLine_0 : decode cX5_allAreInLine 0 = .ok (.iconst 2, 1) := by decide +kernel
theorem dX5_allAreInLine_1 : decode cX5_allAreInLine 1 = .ok (.istore_n 2, 1) := by decide +kernel
theorem dX5_allAreInLine_2 : decode cX5_allAreInLine 2 = .ok (.iload_n 2, 1) := by decide +kernel
theorem dX5_allAreInLine_3 : decode cX5_allAreInLine 3 = .ok (.aload_n 1, 1) := by decide +kernel
theorem dX5_allAreInLine_4 : decode cX5_allAreInLine 4 = .ok (.getfield 79, 3) := by decide +kernel
theorem dX5_allAreInLine_7 : decode cX5_allAreInLine 7 = .ok (.if_icmp .ge 33, 3) := by decide +kernel
theorem dX5_allAreInLine_10 : decode cX5_allAreInLine 10 = .ok (.aload_n 0, 1) := by decide +kernel
theorem dX5_allAreInLine_11 : decode cX5_allAreInLine 11 = .ok (.aload_n 1, 1) := by decide +kernel
theorem dX5_allAreInLine_12 : decode cX5_allAreInLine 12 = .ok (.iconst 0, 1) := by decide +kernel
theorem dX5_allAreInLine_13 : decode cX5_allAreInLine 13 = .ok (.invokevirtual 91, 3) := by decide +kernel
theorem dX5_allAreInLine_16 : decode cX5_allAreInLine 16 = .ok (.aload_n 1, 1) := by decide +kernel
theorem dX5_allAreInLine_17 : decode cX5_allAreInLine 17 = .ok (.iconst 1, 1) := by decide +kernel
theorem dX5_allAreInLine_18 : decode cX5_allAreInLine 18 = .ok (.invokevirtual 91, 3) := by decide +kernel
theorem dX5_allAreInLine_21 : decode cX5_allAreInLine 21 = .ok (.aload_n 1, 1) := by decide +kernel
theorem dX5_allAreInLine_22 : decode cX5_allAreInLine 22 = .ok (.iload_n 2, 1) := by decide +kernel
theorem dX5_allAreInLine_23 : decode cX5_allAreInLine 23 = .ok (.invokevirtual 91, 3) := by decide +kernel
theorem dX5_allAreInLine_26 : decode cX5_allAreInLine 26 = .ok (.invokevirtual 43, 3) := by decide +kernel
theorem dX5_allAreInLine_29 : decode cX5_allAreInLine 29 = .ok (.ifCond .ne 5, 3) := by decide +kernel
theorem dX5_allAreInLine_32 : decode cX5_allAreInLine 32 = .ok (.iconst 0, 1) := by decide +kernel
theorem dX5_allAreInLine_33 : decode cX5_allAreInLine 33 = .ok (.ireturn, 1) := by decide +kernel
theorem dX5_allAreInLine_34 : decode cX5_allAreInLine 34 = .ok (.iinc 2 1, 3) := by decide +kernel
theorem dX5_allAreInLine_37 : decode cX5_allAreInLine 37 = .ok (.goto (-35), 3) := by decide +kernel
theorem dX5_allAreInLine_40 : decode cX5_allAreInLine 40 = .ok (.iconst 1, 1) := by decide +kernel
theorem dX5_allAreInLine_41 : decode cX5_allAreInLine 41 = .ok (.ireturn, 1) := by decide +kernel
set_option maxRecDepth 20000 in
theorem ggX5_allAreOnCircle_X6_at : GoodIn wsX5_allAreOnCircle wsX6_at := goodIn_r _ [8, 9, 10, 11, 67, 68, 69] rfl (by decide +kernel)
set_option maxRecDepth 20000 in
theorem gX5_allAreOnCircle_X6_at : GoodIn wsX5_allAreOnCircle (wsV RX5 91 RX6 yX6_at wsX6_at) := goodIn_app (goodIn_of _ (by decide +kernel)) ggX5_allAreOnCircle_X6_at
set_option maxRecDepth 20000 in
theorem ggX5_allAreOnCircle_X2_circleThrough : GoodIn wsX5_allAreOnCircle wsX2_circleThrough := goodIn_r _ [16, 17, 18, 19, 20, 21, 22, 23, 24, 25, 26, 27, 28, 29, 30, 31, 32, 33, 34, 35, 36, 37, 38, 39, 40, 41, 42, 15, 43, 44, 45, 46, 47, 48, 49, 50, 51, 52, 70, 71, 72, 73, 74, 75, 76, 77, 78, 79, 80, 81, 82, 83, 84, 85, 86, 87] rfl (by decide +kernel)
set_option maxRecDepth 20000 in
theorem gX5_allAreOnCircle_X2_circleThrough : GoodIn wsX5_allAreOnCircle (wsV RX5 95 RX2 yX2_circleThrough wsX2_circleThrough) := goodIn_app (goodIn_of _ (by decide +kernel)) ggX5_allAreOnCircle_X2_circleThrough
set_option maxRecDepth 20000 in
theorem ggX5_allAreOnCircle_X5_isOnCircle : GoodIn wsX5_allAreOnCircle wsX5_isOnCircle := goodIn_r _ [57, 1, 58, 59, 60, 61, 15, 62, 17, 18, 19, 20, 21, 22, 23, 24, 25, 26, 27, 28, 29, 63, 64, 65, 66, 70, 71, 72, 73, 74, 75, 76, 77, 78, 79, 80, 81, 82, 83, 84, 85, 86, 87] rfl (by decide +kernel)
set_option maxRecDepth 20000 in
theorem gX5_allAreOnCircle_X5_isOnCircle : GoodIn wsX5_allAreOnCircle (wsV RX5 39 RX5 yX5_isOnCircle wsX5_isOnCircle) := goodIn_app (goodIn_of _ (by decide +kernel)) ggX5_allAreOnCircle_X5_isOnCircle
theorem dX5_allAreOnCircle_0 : decode cX5_allAreOnCircle 0 = .ok (.aload_n 0, 1) := by decide +kernel
theorem dX5_allAreOnCircle_1 : decode cX5_allAreOnCircle 1 = .ok (.getfield 12, 3) := by decide +kernel
theorem dX5_allAreOnCircle_4 : decode cX5_allAreOnCircle 4 = .ok (.aload_n 0, 1) := by decide +kernel
theorem dX5_allAreOnCircle_5 : decode cX5_allAreOnCircle 5 = .ok (.getfield 32, 3) := by decide +kernel
theorem dX5_allAreOnCircle_8 : decode cX5_allAreOnCircle 8 = .ok (.aload_n 1, 1) := by decide +kernel
theorem dX5_allAreOnCircle_9 : decode cX5_allAreOnCircle 9 = .ok (.iconst 0, 1) := by decide +kernel
theorem dX5_allAreOnCircle_10 : decode cX5_allAreOnCircle 10 = .ok (.invokevirtual 91, 3) := by decide +kernel
theorem dX5_allAreOnCircle_13 : decode cX5_allAreOnCircle 13 = .ok (.aload_n 1, 1) := by decide +kernel
theorem dX5_allAreOnCircle_14 : decode cX5_allAreOnCircle 14 = .ok (.iconst 1, 1) := by decide +kernel
theorem dX5_allAreOnCircle_15 : decode cX5_allAreOnCircle 15 = .ok (.invokevirtual 91, 3) := by decide +kernel
theorem dX5_allAreOnCircle_18 : decode cX5_allAreOnCircle 18 = .ok (.aload_n 1, 1) := by decide +kernel
theorem dX5_allAreOnCircle_19 : decode cX5_allAreOnCircle 19 = .ok (.iconst 2, 1) := by decide +kernel
theorem dX5_allAreOnCircle_20 : decode cX5_allAreOnCircle 20 = .ok (.invokevirtual 91, 3) := by decide +kernel
theorem dX5_allAreOnCircle_23 : decode cX5_allAreOnCircle 23 = .ok (.invokevirtual 95, 3) := by decide +kernel
theorem dX5_allAreOnCircle_26 : decode cX5_allAreOnCircle 26 = .ok (.ifCond .ne 5, 3) := by decide +kernel
theorem dX5_allAreOnCircle_29 : decode cX5_allAreOnCircle 29 = .ok (.iconst 0, 1) := by decide +kernel
theorem dX5_allAreOnCircle_30 : decode cX5_allAreOnCircle 30 = .ok (.ireturn, 1) := by decide +kernel
theorem dX5_allAreOnCircle_31 : decode cX5_allAreOnCircle 31 = .ok (.iconst 3, 1) := by decide +kernel
theorem dX5_allAreOnCircle_32 : decode cX5_allAreOnCircle 32 = .ok (.istore_n 2, 1) := by decide +kernel
theorem dX5_allAreOnCircle_33 : decode cX5_allAreOnCircle 33 = .ok (.iload_n 2, 1) := by decide +kernel
theorem dX5_allAreOnCircle_34 : decode cX5_allAreOnCircle 34 = .ok (.aload_n 1, 1) := by decide +kernel
theorem dX5_allAreOnCircle_35 : decode cX5_allAreOnCircle 35 = .ok (.getfield 79, 3) := by decide +kernel
theorem dX5_allAreOnCircle_38 : decode cX5_allAreOnCircle 38 = .ok (.if_icmp .ge 27, 3) := by decide +kernel
theorem dX5_allAreOnCircle_41 : decode cX5_allAreOnCircle 41 = .ok (.aload_n 0, 1) := by decide +kernel
theorem dX5_allAreOnCircle_42 : decode cX5_allAreOnCircle 42 = .ok (.aload_n 1, 1) := by decide +kernel
theorem dX5_allAreOnCircle_43 : decode cX5_allAreOnCircle 43 = .ok (.iload_n 2, 1) := by decide +kernel
theorem dX5_allAreOnCircle_44 : decode cX5_allAreOnCircle 44 = .ok (.invokevirtual 91, 3) := by decide +kernel
theorem dX5_allAreOnCircle_47 : decode cX5_allAreOnCircle 47 = .ok (.aload_n 0, 1) := by decide +kernel
theorem dX5_allAreOnCircle_48 : decode cX5_allAreOnCircle 48 = .ok (.getfield 32, 3) := by decide +kernel
theorem dX5_allAreOnCircle_51 : decode cX5_allAreOnCircle 51 = .ok (.invokevirtual 39, 3) := by decide +kernel
theorem dX5_allAreOnCircle_54 : decode cX5_allAreOnCircle 54 = .ok (.ifCond .ne 5, 3) := by decide +kernel
theorem dX5_allAreOnCircle_57 : decode cX5_allAreOnCircle 57 = .ok (.iconst 0, 1) := by decide +kernel
theorem dX5_allAreOnCircle_58 : decode cX5_allAreOnCircle 58 = .ok (.ireturn, 1) := by decide +kernel
theorem dX5_allAreOnCircle_59 : decode cX5_allAreOnCircle 59 = .ok (.iinc 2 1, 3) := by decide +kernel
theorem dX5_allAreOnCircle_62 : decode cX5_allAreOnCircle 62 = .ok (.goto (-29), 3) := by decide +kernel
theorem dX5_allAreOnCircle_65 : decode cX5_allAreOnCircle 65 = .ok (.iconst 1, 1) := by decide +kernel
theorem dX5_allAreOnCircle_66 : decode cX5_allAreOnCircle 66 = .ok (.ireturn, 1) := by decide +kernel
set_option maxRecDepth 20000 in
theorem ggX6_init_X4_init : GoodIn wsX6_init wsX4_init := goodIn_r _ [11, 12, 2, 3, 13, 14, 15, 16, 20, 21, 22, 23, 24, 25, 26, 27, 28, 29, 30, 31, 32] rfl (by decide +kernel)
set_option maxRecDepth 20000 in
theorem gX6_init_X4_init : GoodIn wsX6_init (wsX4_init) := ggX6_init_X4_init
theorem dX6_init_0 : decode cX6_init 0 = .ok (.aload_n 0, 1) := by decide +kernel
theorem dX6_init_1 : decode cX6_init 1 = .ok (.invokespecial 3, 3) := by decide +kernel
theorem dX6_init_4 : decode cX6_init 4 = .ok (.aload_n 0, 1) := by decide +kernel
theorem dX6_init_5 : decode cX6_init 5 = .ok (.bipush 43, 2) := by decide +kernel
theorem dX6_init_7 : decode cX6_init 7 = .ok (.anewarray 9, 3) := by decide +kernel
theorem dX6_init_10 : decode cX6_init 10 = .ok (.putfield 11, 3) := by decide +kernel
theorem dX6_init_13 : decode cX6_init 13 = .ok (.aload_n 0, 1) := by decide +kernel
theorem dX6_init_14 : decode cX6_init 14 = .ok (.new 9, 3) := by decide +kernel
theorem dX6_init_17 : decode cX6_init 17 = .ok (.dup, 1) := by decide +kernel
theorem dX6_init_18 : decode cX6_init 18 = .ok (.iconst (-1), 1) := by decide +kernel
theorem dX6_init_19 : decode cX6_init 19 = .ok (.invokespecial 17, 3) := by decide +kernel
theorem dX6_init_22 : decode cX6_init 22 = .ok (.putfield 20, 3) := by decide +kernel
theorem dX6_init_25 : decode cX6_init 25 = .ok (.iconst 0, 1) := by decide +kernel
theorem dX6_init_26 : decode cX6_init 26 = .ok (.istore_n 1, 1) := by decide +kernel
theorem dX6_init_27 : decode cX6_init 27 = .ok (.iload_n 1, 1) := by decide +kernel
theorem dX6_init_28 : decode cX6_init 28 = .ok (.aload_n 0, 1) := by decide +kernel
theorem dX6_init_29 : decode cX6_init 29 = .ok (.getfield 11, 3) := by decide +kernel
theorem dX6_init_32 : decode cX6_init 32 = .ok (.arraylength, 1) := by decide +kernel
theorem dX6_init_33 : decode cX6_init 33 = .ok (.if_icmp .ge 23, 3) := by decide +kernel
theorem dX6_init_36 : decode cX6_init 36 = .ok (.aload_n 0, 1) := by decide +kernel
theorem dX6_init_37 : decode cX6_init 37 = .ok (.getfield 11, 3) := by decide +kernel
theorem dX6_init_40 : decode cX6_init 40 = .ok (.iload_n 1, 1) := by decide +kernel
theorem dX6_init_41 : decode cX6_init 41 = .ok (.new 9, 3) := by decide +kernel
theorem dX6_init_44 : decode cX6_init 44 = .ok (.dup, 1) := by decide +kernel
theorem dX6_init_45 : decode cX6_init 45 = .ok (.iload_n 1, 1) := by decide +kernel
theorem dX6_init_46 : decode cX6_init 46 = .ok (.invokespecial 17, 3) := by decide +kernel
theorem dX6_init_49 : decode cX6_init 49 = .ok (.aastore, 1) := by decide +kernel
theorem dX6_init_50 : decode cX6_init 50 = .ok (.iinc 1 1, 3) := by decide +kernel
theorem dX6_init_53 : decode cX6_init 53 = .ok (.goto (-26), 3) := by decide +kernel
theorem dX6_init_56 : decode cX6_init 56 = .ok (.return_, 1) := by decide +kernel
theorem dX6_has_0 : decode cX6_has 0 = .ok (.iload_n 1, 1) := by decide +kernel
theorem dX6_has_1 : decode cX6_has 1 = .ok (.ifCond .lt 15, 3) := by decide +kernel
theorem dX6_has_4 : decode cX6_has 4 = .ok (.iload_n 1, 1) := by decide +kernel
theorem dX6_has_5 : decode cX6_has 5 = .ok (.aload_n 0, 1) := by decide +kernel
theorem dX6_has_6 : decode cX6_has 6 = .ok (.getfield 24, 3) := by decide +kernel
theorem dX6_has_9 : decode cX6_has 9 = .ok (.if_icmp .ge 7, 3) := by decide +kernel
theorem dX6_has_12 : decode cX6_has 12 = .ok (.iconst 1, 1) := by decide +kernel
theorem dX6_has_13 : decode cX6_has 13 = .ok (.goto 4, 3) := by decide +kernel
theorem dX6_has_16 : decode cX6_has 16 = .ok (.iconst 0, 1) := by decide +kernel
theorem dX6_has_17 : decode cX6_has 17 = .ok (.ireturn, 1) := by decide +kernel
theorem dX6_at_0 : decode cX6_at 0 = .ok (.iload_n 1, 1) := by decide +kernel
theorem dX6_at_1 : decode cX6_at 1 = .ok (.ifCond .lt 20, 3) := by decide +kernel
theorem dX6_at_4 : decode cX6_at 4 = .ok (.iload_n 1, 1) := by decide +kernel
theorem dX6_at_5 : decode cX6_at 5 = .ok (.aload_n 0, 1) := by decide +kernel
theorem dX6_at_6 : decode cX6_at 6 = .ok (.getfield 24, 3) := by decide +kernel
theorem dX6_at_9 : decode cX6_at 9 = .ok (.if_icmp .ge 12, 3) := by decide +kernel
theorem dX6_at_12 : decode cX6_at 12 = .ok (.iload_n 1, 1) := by decide +kernel
theorem dX6_at_13 : decode cX6_at 13 = .ok (.aload_n 0, 1) := by decide +kernel
theorem dX6_at_14 : decode cX6_at 14 = .ok (.getfield 11, 3) := by decide +kernel
theorem dX6_at_17 : decode cX6_at 17 = .ok (.arraylength, 1) := by decide +kernel
theorem dX6_at_18 : decode cX6_at 18 = .ok (.if_icmp .lt 8, 3) := by decide +kernel
theorem dX6_at_21 : decode cX6_at 21 = .ok (.aload_n 0, 1) := by decide +kernel
theorem dX6_at_22 : decode cX6_at 22 = .ok (.getfield 20, 3) := by decide +kernel
theorem dX6_at_25 : decode cX6_at 25 = .ok (.areturn, 1) := by decide +kernel
theorem dX6_at_26 : decode cX6_at 26 = .ok (.aload_n 0, 1) := by decide +kernel
theorem dX6_at_27 : decode cX6_at 27 = .ok (.getfield 11, 3) := by decide +kernel
theorem dX6_at_30 : decode cX6_at 30 = .ok (.iload_n 1, 1) := by decide +kernel
theorem dX6_at_31 : decode cX6_at 31 = .ok (.aaload, 1) := by decide +kernel
theorem dX6_at_32 : decode cX6_at 32 = .ok (.astore_n 2, 1) := by decide +kernel
theorem dX6_at_33 : decode cX6_at 33 = .ok (.aload_n 2, 1) := by decide +kernel
theorem dX6_at_34 : decode cX6_at 34 = .ok (.ifnonnull 10, 3) := by decide +kernel
theorem dX6_at_37 : decode cX6_at 37 = .ok (.aload_n 0, 1) := by decide +kernel
theorem dX6_at_38 : decode cX6_at 38 = .ok (.getfield 20, 3) := by decide +kernel
theorem dX6_at_41 : decode cX6_at 41 = .ok (.goto 4, 3) := by decide +kernel
theorem dX6_at_44 : decode cX6_at 44 = .ok (.aload_n 2, 1) := by decide +kernel
theorem dX6_at_45 : decode cX6_at 45 = .ok (.areturn, 1) := by decide +kernel
set_option maxRecDepth 20000 in
theorem ggX6_next_X6_at : GoodIn wsX6_next wsX6_at := goodIn_r _ [8, 1, 2, 3, 9, 10, 11] rfl (by decide +kernel)
set_option maxRecDepth 20000 in
theorem gX6_next_X6_at : GoodIn wsX6_next (wsV RX6 28 RX6 yX6_at wsX6_at) := goodIn_app (goodIn_of _ (by decide +kernel)) ggX6_next_X6_at
theorem dX6_next_0 : decode cX6_next 0 = .ok (.aload_n 0, 1) := by decide +kernel
theorem dX6_next_1 : decode cX6_next 1 = .ok (.getfield 24, 3) := by decide +kernel
theorem dX6_next_4 : decode cX6_next 4 = .ok (.aload_n 0, 1) := by decide +kernel
theorem dX6_next_5 : decode cX6_next 5 = .ok (.getfield 11, 3) := by decide +kernel
theorem dX6_next_8 : decode cX6_next 8 = .ok (.arraylength, 1) := by decide +kernel
theorem dX6_next_9 : decode cX6_next 9 = .ok (.if_icmp .lt 8, 3) := by decide +kernel
theorem dX6_next_12 : decode cX6_next 12 = .ok (.aload_n 0, 1) := by decide +kernel
theorem dX6_next_13 : decode cX6_next 13 = .ok (.getfield 20, 3) := by decide +kernel
theorem dX6_next_16 : decode cX6_next 16 = .ok (.areturn, 1) := by decide +kernel
theorem dX6_next_17 : decode cX6_next 17 = .ok (.aload_n 0, 1) := by decide +kernel
theorem dX6_next_18 : decode cX6_next 18 = .ok (.dup, 1) := by decide +kernel
theorem dX6_next_19 : decode cX6_next 19 = .ok (.getfield 24, 3) := by decide +kernel
theorem dX6_next_22 : decode cX6_next 22 = .ok (.iconst 1, 1) := by decide +kernel
theorem dX6_next_23 : decode cX6_next 23 = .ok (.iadd, 1) := by decide +kernel
theorem dX6_next_24 : decode cX6_next 24 = .ok (.putfield 24, 3) := by decide +kernel
theorem dX6_next_27 : decode cX6_next 27 = .ok (.aload_n 0, 1) := by decide +kernel
theorem dX6_next_28 : decode cX6_next 28 = .ok (.aload_n 0, 1) := by decide +kernel
theorem dX6_next_29 : decode cX6_next 29 = .ok (.getfield 24, 3) := by decide +kernel
theorem dX6_next_32 : decode cX6_next 32 = .ok (.iconst 1, 1) := by decide +kernel
theorem dX6_next_33 : decode cX6_next 33 = .ok (.isub, 1) := by decide +kernel
theorem dX6_next_34 : decode cX6_next 34 = .ok (.invokevirtual 28, 3) := by decide +kernel
theorem dX6_next_37 : decode cX6_next 37 = .ok (.areturn, 1) := by decide +kernel
set_option maxRecDepth 20000 in
theorem ggX6_freePoints_X6_at : GoodIn wsX6_freePoints wsX6_at := goodIn_r _ [7, 1, 8, 9, 10, 11, 12] rfl (by decide +kernel)
set_option maxRecDepth 20000 in
theorem gX6_freePoints_X6_at : GoodIn wsX6_freePoints (wsV RX6 28 RX6 yX6_at wsX6_at) := goodIn_app (goodIn_of _ (by decide +kernel)) ggX6_freePoints_X6_at
