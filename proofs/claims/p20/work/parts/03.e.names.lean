theorem dX6_freePoints_0 : decode cX6_freePoints 0 = .ok (.iconst 0, 1) := by decide +kernel
theorem dX6_freePoints_1 : decode cX6_freePoints 1 = .ok (.istore_n 1, 1) := by decide +kernel
theorem dX6_freePoints_2 : decode cX6_freePoints 2 = .ok (.iconst 0, 1) := by decide +kernel
theorem dX6_freePoints_3 : decode cX6_freePoints 3 = .ok (.istore_n 2, 1) := by decide +kernel
theorem dX6_freePoints_4 : decode cX6_freePoints 4 = .ok (.iload_n 2, 1) := by decide +kernel
theorem dX6_freePoints_5 : decode cX6_freePoints 5 = .ok (.aload_n 0, 1) := by decide +kernel
theorem dX6_freePoints_6 : decode cX6_freePoints 6 = .ok (.getfield 24, 3) := by decide +kernel
theorem dX6_freePoints_9 : decode cX6_freePoints 9 = .ok (.if_icmp .ge 28, 3) := by decide +kernel
theorem dX6_freePoints_12 : decode cX6_freePoints 12 = .ok (.iload_n 1, 1) := by decide +kernel
theorem dX6_freePoints_13 : decode cX6_freePoints 13 = .ok (.aload_n 0, 1) := by decide +kernel
theorem dX6_freePoints_14 : decode cX6_freePoints 14 = .ok (.iload_n 2, 1) := by decide +kernel
theorem dX6_freePoints_15 : decode cX6_freePoints 15 = .ok (.invokevirtual 28, 3) := by decide +kernel
theorem dX6_freePoints_18 : decode cX6_freePoints 18 = .ok (.getfield 32, 3) := by decide +kernel
theorem dX6_freePoints_21 : decode cX6_freePoints 21 = .ok (.ifCond .ne 7, 3) := by decide +kernel
theorem dX6_freePoints_24 : decode cX6_freePoints 24 = .ok (.iconst 1, 1) := by decide +kernel
theorem dX6_freePoints_25 : decode cX6_freePoints 25 = .ok (.goto 4, 3) := by decide +kernel
theorem dX6_freePoints_28 : decode cX6_freePoints 28 = .ok (.iconst 0, 1) := by decide +kernel
theorem dX6_freePoints_29 : decode cX6_freePoints 29 = .ok (.iadd, 1) := by decide +kernel
theorem dX6_freePoints_30 : decode cX6_freePoints 30 = .ok (.istore_n 1, 1) := by decide +kernel
theorem dX6_freePoints_31 : decode cX6_freePoints 31 = .ok (.iinc 2 1, 3) := by decide +kernel
theorem dX6_freePoints_34 : decode cX6_freePoints 34 = .ok (.goto (-30), 3) := by decide +kernel
theorem dX6_freePoints_37 : decode cX6_freePoints 37 = .ok (.iload_n 1, 1) := by decide +kernel
theorem dX6_freePoints_38 : decode cX6_freePoints 38 = .ok (.ireturn, 1) := by decide +kernel
set_option maxRecDepth 20000 in
theorem ggX6_lackingOnes_X6_at : GoodIn wsX6_lackingOnes wsX6_at := goodIn_r _ [7, 1, 8, 9, 10, 11, 12] rfl (by decide +kernel)
set_option maxRecDepth 20000 in
theorem gX6_lackingOnes_X6_at : GoodIn wsX6_lackingOnes (wsV RX6 28 RX6 yX6_at wsX6_at) := goodIn_app (goodIn_of _ (by decide +kernel)) ggX6_lackingOnes_X6_at
theorem dX6_lackingOnes_0 : decode cX6_lackingOnes 0 = .ok (.iconst 0, 1) := by decide +kernel
theorem dX6_lackingOnes_1 : decode cX6_lackingOnes 1 = .ok (.istore_n 1, 1) := by decide +kernel
theorem dX6_lackingOnes_2 : decode cX6_lackingOnes 2 = .ok (.iconst 0, 1) := by decide +kernel
theorem dX6_lackingOnes_3 : decode cX6_lackingOnes 3 = .ok (.istore_n 2, 1) := by decide +kernel
theorem dX6_lackingOnes_4 : decode cX6_lackingOnes 4 = .ok (.iload_n 2, 1) := by decide +kernel
theorem dX6_lackingOnes_5 : decode cX6_lackingOnes 5 = .ok (.aload_n 0, 1) := by decide +kernel
theorem dX6_lackingOnes_6 : decode cX6_lackingOnes 6 = .ok (.getfield 24, 3) := by decide +kernel
theorem dX6_lackingOnes_9 : decode cX6_lackingOnes 9 = .ok (.if_icmp .ge 28, 3) := by decide +kernel
theorem dX6_lackingOnes_12 : decode cX6_lackingOnes 12 = .ok (.iload_n 1, 1) := by decide +kernel
theorem dX6_lackingOnes_13 : decode cX6_lackingOnes 13 = .ok (.aload_n 0, 1) := by decide +kernel
theorem dX6_lackingOnes_14 : decode cX6_lackingOnes 14 = .ok (.iload_n 2, 1) := by decide +kernel
theorem dX6_lackingOnes_15 : decode cX6_lackingOnes 15 = .ok (.invokevirtual 28, 3) := by decide +kernel
theorem dX6_lackingOnes_18 : decode cX6_lackingOnes 18 = .ok (.getfield 35, 3) := by decide +kernel
theorem dX6_lackingOnes_21 : decode cX6_lackingOnes 21 = .ok (.ifCond .eq 7, 3) := by decide +kernel
theorem dX6_lackingOnes_24 : decode cX6_lackingOnes 24 = .ok (.iconst 1, 1) := by decide +kernel
theorem dX6_lackingOnes_25 : decode cX6_lackingOnes 25 = .ok (.goto 4, 3) := by decide +kernel
theorem dX6_lackingOnes_28 : decode cX6_lackingOnes 28 = .ok (.iconst 0, 1) := by decide +kernel
theorem dX6_lackingOnes_29 : decode cX6_lackingOnes 29 = .ok (.iadd, 1) := by decide +kernel
theorem dX6_lackingOnes_30 : decode cX6_lackingOnes 30 = .ok (.istore_n 1, 1) := by decide +kernel
theorem dX6_lackingOnes_31 : decode cX6_lackingOnes 31 = .ok (.iinc 2 1, 3) := by decide +kernel
theorem dX6_lackingOnes_34 : decode cX6_lackingOnes 34 = .ok (.goto (-30), 3) := by decide +kernel
theorem dX6_lackingOnes_37 : decode cX6_lackingOnes 37 = .ok (.iload_n 1, 1) := by decide +kernel
theorem dX6_lackingOnes_38 : decode cX6_lackingOnes 38 = .ok (.ireturn, 1) := by decide +kernel
set_option maxRecDepth 20000 in
theorem ggX6_markFollowers_X6_at : GoodIn wsX6_markFollowers wsX6_at := goodIn_r _ [11, 1, 12, 13, 14, 15, 16] rfl (by decide +kernel)
set_option maxRecDepth 20000 in
theorem gX6_markFollowers_X6_at : GoodIn wsX6_markFollowers (wsV RX6 28 RX6 yX6_at wsX6_at) := goodIn_app (goodIn_of _ (by decide +kernel)) ggX6_markFollowers_X6_at
theorem dX6_markFollowers_0 : decode cX6_markFollowers 0 = .ok (.iconst 0, 1) := by decide +kernel
theorem dX6_markFollowers_1 : decode cX6_markFollowers 1 = .ok (.istore_n 2, 1) := by decide +kernel
theorem dX6_markFollowers_2 : decode cX6_markFollowers 2 = .ok (.iload_n 2, 1) := by decide +kernel
theorem dX6_markFollowers_3 : decode cX6_markFollowers 3 = .ok (.aload_n 0, 1) := by decide +kernel
theorem dX6_markFollowers_4 : decode cX6_markFollowers 4 = .ok (.getfield 24, 3) := by decide +kernel
theorem dX6_markFollowers_7 : decode cX6_markFollowers 7 = .ok (.if_icmp .ge 74, 3) := by decide +kernel
theorem dX6_markFollowers_10 : decode cX6_markFollowers 10 = .ok (.aload_n 0, 1) := by decide +kernel
theorem dX6_markFollowers_11 : decode cX6_markFollowers 11 = .ok (.iload_n 2, 1) := by decide +kernel
theorem dX6_markFollowers_12 : decode cX6_markFollowers 12 = .ok (.invokevirtual 28, 3) := by decide +kernel
theorem dX6_markFollowers_15 : decode cX6_markFollowers 15 = .ok (.astore_n 3, 1) := by decide +kernel
theorem dX6_markFollowers_16 : decode cX6_markFollowers 16 = .ok (.aload_n 3, 1) := by decide +kernel
theorem dX6_markFollowers_17 : decode cX6_markFollowers 17 = .ok (.iload_n 2, 1) := by decide +kernel
theorem dX6_markFollowers_18 : decode cX6_markFollowers 18 = .ok (.aload_n 1, 1) := by decide +kernel
theorem dX6_markFollowers_19 : decode cX6_markFollowers 19 = .ok (.getfield 39, 3) := by decide +kernel
theorem dX6_markFollowers_22 : decode cX6_markFollowers 22 = .ok (.if_icmp .eq 45, 3) := by decide +kernel
theorem dX6_markFollowers_25 : decode cX6_markFollowers 25 = .ok (.aload_n 0, 1) := by decide +kernel
theorem dX6_markFollowers_26 : decode cX6_markFollowers 26 = .ok (.aload_n 3, 1) := by decide +kernel
theorem dX6_markFollowers_27 : decode cX6_markFollowers 27 = .ok (.getfield 42, 3) := by decide +kernel
theorem dX6_markFollowers_30 : decode cX6_markFollowers 30 = .ok (.invokevirtual 28, 3) := by decide +kernel
theorem dX6_markFollowers_33 : decode cX6_markFollowers 33 = .ok (.getfield 45, 3) := by decide +kernel
theorem dX6_markFollowers_36 : decode cX6_markFollowers 36 = .ok (.ifCond .ne 31, 3) := by decide +kernel
theorem dX6_markFollowers_39 : decode cX6_markFollowers 39 = .ok (.aload_n 0, 1) := by decide +kernel
theorem dX6_markFollowers_40 : decode cX6_markFollowers 40 = .ok (.aload_n 3, 1) := by decide +kernel
theorem dX6_markFollowers_41 : decode cX6_markFollowers 41 = .ok (.getfield 48, 3) := by decide +kernel
theorem dX6_markFollowers_44 : decode cX6_markFollowers 44 = .ok (.invokevirtual 28, 3) := by decide +kernel
theorem dX6_markFollowers_47 : decode cX6_markFollowers 47 = .ok (.getfield 45, 3) := by decide +kernel
theorem dX6_markFollowers_50 : decode cX6_markFollowers 50 = .ok (.ifCond .ne 17, 3) := by decide +kernel
theorem dX6_markFollowers_53 : decode cX6_markFollowers 53 = .ok (.aload_n 0, 1) := by decide +kernel
theorem dX6_markFollowers_54 : decode cX6_markFollowers 54 = .ok (.aload_n 3, 1) := by decide +kernel
theorem dX6_markFollowers_55 : decode cX6_markFollowers 55 = .ok (.getfield 51, 3) := by decide +kernel
theorem dX6_markFollowers_58 : decode cX6_markFollowers 58 = .ok (.invokevirtual 28, 3) := by decide +kernel
theorem dX6_markFollowers_61 : decode cX6_markFollowers 61 = .ok (.getfield 45, 3) := by decide +kernel
theorem dX6_markFollowers_64 : decode cX6_markFollowers 64 = .ok (.ifCond .eq 7, 3) := by decide +kernel
theorem dX6_markFollowers_67 : decode cX6_markFollowers 67 = .ok (.iconst 1, 1) := by decide +kernel
theorem dX6_markFollowers_68 : decode cX6_markFollowers 68 = .ok (.goto 4, 3) := by decide +kernel
theorem dX6_markFollowers_71 : decode cX6_markFollowers 71 = .ok (.iconst 0, 1) := by decide +kernel
theorem dX6_markFollowers_72 : decode cX6_markFollowers 72 = .ok (.putfield 45, 3) := by decide +kernel
theorem dX6_markFollowers_75 : decode cX6_markFollowers 75 = .ok (.iinc 2 1, 3) := by decide +kernel
theorem dX6_markFollowers_78 : decode cX6_markFollowers 78 = .ok (.goto (-76), 3) := by decide +kernel
theorem dX6_markFollowers_81 : decode cX6_markFollowers 81 = .ok (.return_, 1) := by decide +kernel
set_option maxRecDepth 20000 in
theorem ggX6_wantAll_X6_setWanted : GoodIn wsX6_wantAll wsX6_setWanted := goodIn_r _ [5, 6, 7, 8, 9, 10, 4, 11, 12, 13, 14, 15, 16, 17, 18, 19, 20, 21, 22, 23, 24, 25, 26, 27, 28, 29] rfl (by decide +kernel)
set_option maxRecDepth 20000 in
theorem gX6_wantAll_X6_setWanted : GoodIn wsX6_wantAll (wsV RX6 54 RX6 yX6_setWanted wsX6_setWanted) := goodIn_app (goodIn_of _ (by decide +kernel)) ggX6_wantAll_X6_setWanted
theorem dX6_wantAll_0 : decode cX6_wantAll 0 = .ok (.aload_n 0, 1) := by decide +kernel
theorem dX6_wantAll_1 : decode cX6_wantAll 1 = .ok (.iconst 1, 1) := by decide +kernel
theorem dX6_wantAll_2 : decode cX6_wantAll 2 = .ok (.invokevirtual 54, 3) := by decide +kernel
theorem dX6_wantAll_5 : decode cX6_wantAll 5 = .ok (.return_, 1) := by decide +kernel
set_option maxRecDepth 20000 in
theorem ggX6_wantFor_X6_setWanted : GoodIn wsX6_wantFor wsX6_setWanted := goodIn_r _ [6, 7, 1, 8, 9, 10, 5, 11, 12, 13, 34, 35, 36, 21, 22, 23, 24, 25, 26, 27, 28, 29, 30, 31, 32, 33] rfl (by decide +kernel)
set_option maxRecDepth 20000 in
theorem gX6_wantFor_X6_setWanted : GoodIn wsX6_wantFor (wsV RX6 54 RX6 yX6_setWanted wsX6_setWanted) := goodIn_app (goodIn_of _ (by decide +kernel)) ggX6_wantFor_X6_setWanted
set_option maxRecDepth 20000 in
theorem ggX6_wantFor_X6_wantParents : GoodIn wsX6_wantFor wsX6_wantParents := goodIn_r _ [17, 7, 1, 18, 19, 20, 8, 9, 10, 5, 11, 12, 13, 34, 35, 36, 21, 22, 23, 24, 25, 26, 27, 28, 29, 30, 31, 32, 33] rfl (by decide +kernel)
set_option maxRecDepth 20000 in
theorem gX6_wantFor_X6_wantParents : GoodIn wsX6_wantFor (wsV RX6 61 RX6 yX6_wantParents wsX6_wantParents) := goodIn_app (goodIn_of _ (by decide +kernel)) ggX6_wantFor_X6_wantParents
theorem dX6_wantFor_0 : decode cX6_wantFor 0 = .ok (.aload_n 0, 1) := by decide +kernel
theorem dX6_wantFor_1 : decode cX6_wantFor 1 = .ok (.iconst 0, 1) := by decide +kernel
theorem dX6_wantFor_2 : decode cX6_wantFor 2 = .ok (.invokevirtual 54, 3) := by decide +kernel
theorem dX6_wantFor_5 : decode cX6_wantFor 5 = .ok (.aload_n 1, 1) := by decide +kernel
theorem dX6_wantFor_6 : decode cX6_wantFor 6 = .ok (.iconst 1, 1) := by decide +kernel
theorem dX6_wantFor_7 : decode cX6_wantFor 7 = .ok (.putfield 58, 3) := by decide +kernel
theorem dX6_wantFor_10 : decode cX6_wantFor 10 = .ok (.aload_n 0, 1) := by decide +kernel
theorem dX6_wantFor_11 : decode cX6_wantFor 11 = .ok (.invokevirtual 61, 3) := by decide +kernel
theorem dX6_wantFor_14 : decode cX6_wantFor 14 = .ok (.return_, 1) := by decide +kernel
set_option maxRecDepth 20000 in
theorem ggX6_wantFor__X6_setWanted : GoodIn wsX6_wantFor_ wsX6_setWanted := goodIn_r _ [10, 11, 2, 12, 13, 14, 9, 15, 16, 17, 43, 44, 45, 30, 31, 32, 33, 34, 35, 36, 37, 38, 39, 40, 41, 42] rfl (by decide +kernel)
set_option maxRecDepth 20000 in
theorem gX6_wantFor__X6_setWanted : GoodIn wsX6_wantFor_ (wsV RX6 54 RX6 yX6_setWanted wsX6_setWanted) := goodIn_app (goodIn_of _ (by decide +kernel)) ggX6_wantFor__X6_setWanted
set_option maxRecDepth 20000 in
theorem ggX6_wantFor__X6_at : GoodIn wsX6_wantFor_ wsX6_at := goodIn_r _ [15, 11, 16, 17, 43, 44, 45] rfl (by decide +kernel)
set_option maxRecDepth 20000 in
theorem gX6_wantFor__X6_at : GoodIn wsX6_wantFor_ (wsV RX6 28 RX6 yX6_at wsX6_at) := goodIn_app (goodIn_of _ (by decide +kernel)) ggX6_wantFor__X6_at
set_option maxRecDepth 20000 in
theorem ggX6_wantFor__X6_wantParents : GoodIn wsX6_wantFor_ wsX6_wantParents := goodIn_r _ [21, 11, 2, 22, 23, 24, 12, 13, 14, 9, 15, 16, 17, 43, 44, 45, 30, 31, 32, 33, 34, 35, 36, 37, 38, 39, 40, 41, 42] rfl (by decide +kernel)
set_option maxRecDepth 20000 in
theorem gX6_wantFor__X6_wantParents : GoodIn wsX6_wantFor_ (wsV RX6 61 RX6 yX6_wantParents wsX6_wantParents) := goodIn_app (goodIn_of _ (by decide +kernel)) ggX6_wantFor__X6_wantParents
theorem dX6_wantFor__0 : decode cX6_wantFor_ 0 = .ok (.aload_n 0, 1) := by decide +kernel
theorem dX6_wantFor__1 : decode cX6_wantFor_ 1 = .ok (.iconst 0, 1) := by decide +kernel
theorem dX6_wantFor__2 : decode cX6_wantFor_ 2 = .ok (.invokevirtual 54, 3) := by decide +kernel
theorem dX6_wantFor__5 : decode cX6_wantFor_ 5 = .ok (.aload_n 0, 1) := by decide +kernel
theorem dX6_wantFor__6 : decode cX6_wantFor_ 6 = .ok (.aload_n 1, 1) := by decide +kernel
theorem dX6_wantFor__7 : decode cX6_wantFor_ 7 = .ok (.getfield 64, 3) := by decide +kernel
theorem dX6_wantFor__10 : decode cX6_wantFor_ 10 = .ok (.invokevirtual 28, 3) := by decide +kernel
theorem dX6_wantFor__13 : decode cX6_wantFor_ 13 = .ok (.iconst 1, 1) := by decide +kernel
theorem dX6_wantFor__14 : decode cX6_wantFor_ 14 = .ok (.putfield 58, 3) := by decide +kernel
theorem dX6_wantFor__17 : decode cX6_wantFor_ 17 = .ok (.aload_n 0, 1) := by decide +kernel
theorem dX6_wantFor__18 : decode cX6_wantFor_ 18 = .ok (.aload_n 1, 1) := by decide +kernel
theorem dX6_wantFor__19 : decode cX6_wantFor_ 19 = .ok (.getfield 67, 3) := by decide +kernel
theorem dX6_wantFor__22 : decode cX6_wantFor_ 22 = .ok (.invokevirtual 28, 3) := by decide +kernel
theorem dX6_wantFor__25 : decode cX6_wantFor_ 25 = .ok (.iconst 1, 1) := by decide +kernel
theorem dX6_wantFor__26 : decode cX6_wantFor_ 26 = .ok (.putfield 58, 3) := by decide +kernel
theorem dX6_wantFor__29 : decode cX6_wantFor_ 29 = .ok (.aload_n 0, 1) := by decide +kernel
theorem dX6_wantFor__30 : decode cX6_wantFor_ 30 = .ok (.aload_n 1, 1) := by decide +kernel
theorem dX6_wantFor__31 : decode cX6_wantFor_ 31 = .ok (.getfield 68, 3) := by decide +kernel
theorem dX6_wantFor__34 : decode cX6_wantFor_ 34 = .ok (.invokevirtual 28, 3) := by decide +kernel
theorem dX6_wantFor__37 : decode cX6_wantFor_ 37 = .ok (.iconst 1, 1) := by decide +kernel
theorem dX6_wantFor__38 : decode cX6_wantFor_ 38 = .ok (.putfield 58, 3) := by decide +kernel
theorem dX6_wantFor__41 : decode cX6_wantFor_ 41 = .ok (.aload_n 0, 1) := by decide +kernel
theorem dX6_wantFor__42 : decode cX6_wantFor_ 42 = .ok (.aload_n 1, 1) := by decide +kernel
theorem dX6_wantFor__43 : decode cX6_wantFor_ 43 = .ok (.getfield 69, 3) := by decide +kernel
theorem dX6_wantFor__46 : decode cX6_wantFor_ 46 = .ok (.invokevirtual 28, 3) := by decide +kernel
theorem dX6_wantFor__49 : decode cX6_wantFor_ 49 = .ok (.iconst 1, 1) := by decide +kernel
theorem dX6_wantFor__50 : decode cX6_wantFor_ 50 = .ok (.putfield 58, 3) := by decide +kernel
theorem dX6_wantFor__53 : decode cX6_wantFor_ 53 = .ok (.aload_n 0, 1) := by decide +kernel
theorem dX6_wantFor__54 : decode cX6_wantFor_ 54 = .ok (.invokevirtual 61, 3) := by decide +kernel
theorem dX6_wantFor__57 : decode cX6_wantFor_ 57 = .ok (.return_, 1) := by decide +kernel
set_option maxRecDepth 20000 in
theorem ggX6_setWanted_X6_at : GoodIn wsX6_setWanted wsX6_at := goodIn_r _ [7, 1, 8, 9, 10, 11, 12] rfl (by decide +kernel)
set_option maxRecDepth 20000 in
theorem gX6_setWanted_X6_at : GoodIn wsX6_setWanted (wsV RX6 28 RX6 yX6_at wsX6_at) := goodIn_app (goodIn_of _ (by decide +kernel)) ggX6_setWanted_X6_at
theorem dX6_setWanted_0 : decode cX6_setWanted 0 = .ok (.iconst 0, 1) := by decide +kernel
theorem dX6_setWanted_1 : decode cX6_setWanted 1 = .ok (.istore_n 2, 1) := by decide +kernel
theorem dX6_setWanted_2 : decode cX6_setWanted 2 = .ok (.iload_n 2, 1) := by decide +kernel
theorem dX6_setWanted_3 : decode cX6_setWanted 3 = .ok (.aload_n 0, 1) := by decide +kernel
theorem dX6_setWanted_4 : decode cX6_setWanted 4 = .ok (.getfield 24, 3) := by decide +kernel
theorem dX6_setWanted_7 : decode cX6_setWanted 7 = .ok (.if_icmp .ge 18, 3) := by decide +kernel
theorem dX6_setWanted_10 : decode cX6_setWanted 10 = .ok (.aload_n 0, 1) := by decide +kernel
theorem dX6_setWanted_11 : decode cX6_setWanted 11 = .ok (.iload_n 2, 1) := by decide +kernel
theorem dX6_setWanted_12 : decode cX6_setWanted 12 = .ok (.invokevirtual 28, 3) := by decide +kernel
theorem dX6_setWanted_15 : decode cX6_setWanted 15 = .ok (.iload_n 1, 1) := by decide +kernel
theorem dX6_setWanted_16 : decode cX6_setWanted 16 = .ok (.putfield 58, 3) := by decide +kernel
theorem dX6_setWanted_19 : decode cX6_setWanted 19 = .ok (.iinc 2 1, 3) := by decide +kernel
theorem dX6_setWanted_22 : decode cX6_setWanted 22 = .ok (.goto (-20), 3) := by decide +kernel
theorem dX6_setWanted_25 : decode cX6_setWanted 25 = .ok (.return_, 1) := by decide +kernel
set_option maxRecDepth 20000 in
theorem ggX6_wantParents_X6_at : GoodIn wsX6_wantParents wsX6_at := goodIn_r _ [10, 1, 11, 12, 13, 14, 15] rfl (by decide +kernel)
set_option maxRecDepth 20000 in
theorem gX6_wantParents_X6_at : GoodIn wsX6_wantParents (wsV RX6 28 RX6 yX6_at wsX6_at) := goodIn_app (goodIn_of _ (by decide +kernel)) ggX6_wantParents_X6_at
theorem dX6_wantParents_0 : decode cX6_wantParents 0 = .ok (.aload_n 0, 1) := by decide +kernel
theorem dX6_wantParents_1 : decode cX6_wantParents 1 = .ok (.getfield 24, 3) := by decide +kernel
theorem dX6_wantParents_4 : decode cX6_wantParents 4 = .ok (.iconst 1, 1) := by decide +kernel
theorem dX6_wantParents_5 : decode cX6_wantParents 5 = .ok (.isub, 1) := by decide +kernel
theorem dX6_wantParents_6 : decode cX6_wantParents 6 = .ok (.istore_n 1, 1) := by decide +kernel
theorem dX6_wantParents_7 : decode cX6_wantParents 7 = .ok (.iload_n 1, 1) := by decide +kernel
theorem dX6_wantParents_8 : decode cX6_wantParents 8 = .ok (.ifCond .lt 58, 3) := by decide +kernel
theorem dX6_wantParents_11 : decode cX6_wantParents 11 = .ok (.aload_n 0, 1) := by decide +kernel
theorem dX6_wantParents_12 : decode cX6_wantParents 12 = .ok (.iload_n 1, 1) := by decide +kernel
theorem dX6_wantParents_13 : decode cX6_wantParents 13 = .ok (.invokevirtual 28, 3) := by decide +kernel
theorem dX6_wantParents_16 : decode cX6_wantParents 16 = .ok (.astore_n 2, 1) := by decide +kernel
theorem dX6_wantParents_17 : decode cX6_wantParents 17 = .ok (.aload_n 2, 1) := by decide +kernel
theorem dX6_wantParents_18 : decode cX6_wantParents 18 = .ok (.getfield 58, 3) := by decide +kernel
theorem dX6_wantParents_21 : decode cX6_wantParents 21 = .ok (.ifCond .eq 39, 3) := by decide +kernel
theorem dX6_wantParents_24 : decode cX6_wantParents 24 = .ok (.aload_n 0, 1) := by decide +kernel
theorem dX6_wantParents_25 : decode cX6_wantParents 25 = .ok (.aload_n 2, 1) := by decide +kernel
theorem dX6_wantParents_26 : decode cX6_wantParents 26 = .ok (.getfield 42, 3) := by decide +kernel
theorem dX6_wantParents_29 : decode cX6_wantParents 29 = .ok (.invokevirtual 28, 3) := by decide +kernel
theorem dX6_wantParents_32 : decode cX6_wantParents 32 = .ok (.iconst 1, 1) := by decide +kernel
theorem dX6_wantParents_33 : decode cX6_wantParents 33 = .ok (.putfield 58, 3) := by decide +kernel
theorem dX6_wantParents_36 : decode cX6_wantParents 36 = .ok (.aload_n 0, 1) := by decide +kernel
theorem dX6_wantParents_37 : decode cX6_wantParents 37 = .ok (.aload_n 2, 1) := by decide +kernel
theorem dX6_wantParents_38 : decode cX6_wantParents 38 = .ok (.getfield 48, 3) := by decide +kernel
theorem dX6_wantParents_41 : decode cX6_wantParents 41 = .ok (.invokevirtual 28, 3) := by decide +kernel
theorem dX6_wantParents_44 : decode cX6_wantParents 44 = .ok (.iconst 1, 1) := by decide +kernel
theorem dX6_wantParents_45 : decode cX6_wantParents 45 = .ok (.putfield 58, 3) := by decide +kernel
theorem dX6_wantParents_48 : decode cX6_wantParents 48 = .ok (.aload_n 0, 1) := by decide +kernel
theorem dX6_wantParents_49 : decode cX6_wantParents 49 = .ok (.aload_n 2, 1) := by decide +kernel
theorem dX6_wantParents_50 : decode cX6_wantParents 50 = .ok (.getfield 51, 3) := by decide +kernel
theorem dX6_wantParents_53 : decode cX6_wantParents 53 = .ok (.invokevirtual 28, 3) := by decide +kernel
theorem dX6_wantParents_56 : decode cX6_wantParents 56 = .ok (.iconst 1, 1) := by decide +kernel
theorem dX6_wantParents_57 : decode cX6_wantParents 57 = .ok (.putfield 58, 3) := by decide +kernel
theorem dX6_wantParents_60 : decode cX6_wantParents 60 = .ok (.iinc 1 (-1), 3) := by decide +kernel
theorem dX6_wantParents_63 : decode cX6_wantParents 63 = .ok (.goto (-56), 3) := by decide +kernel
theorem dX6_wantParents_66 : decode cX6_wantParents 66 = .ok (.return_, 1) := by decide +kernel
set_option maxRecDepth 20000 in
theorem ggX7_init_X6_init : GoodIn wsX7_init wsX6_init := goodIn_r _ [10, 11, 2, 3, 12, 13, 14, 15, 16, 17, 18, 19, 20, 21, 22, 23, 24, 25, 26, 27, 30, 31, 32, 33, 34, 35, 36, 37, 38, 39, 40, 41, 42] rfl (by decide +kernel)
set_option maxRecDepth 20000 in
theorem gX7_init_X6_init : GoodIn wsX7_init (wsX6_init) := ggX7_init_X6_init
theorem dX7_init_0 : decode cX7_init 0 = .ok (.aload_n 0, 1) := by decide +kernel
theorem dX7_init_1 : decode cX7_init 1 = .ok (.invokespecial 1, 3) := by decide +kernel
theorem dX7_init_4 : decode cX7_init 4 = .ok (.aload_n 0, 1) := by decide +kernel
theorem dX7_init_5 : decode cX7_init 5 = .ok (.new 7, 3) := by decide +kernel
theorem dX7_init_8 : decode cX7_init 8 = .ok (.dup, 1) := by decide +kernel
theorem dX7_init_9 : decode cX7_init 9 = .ok (.invokespecial 9, 3) := by decide +kernel
theorem dX7_init_12 : decode cX7_init 12 = .ok (.putfield 10, 3) := by decide +kernel
theorem dX7_init_15 : decode cX7_init 15 = .ok (.return_, 1) := by decide +kernel
theorem dX7_clear_0 : decode cX7_clear 0 = .ok (.aload_n 0, 1) := by decide +kernel
theorem dX7_clear_1 : decode cX7_clear 1 = .ok (.getfield 10, 3) := by decide +kernel
theorem dX7_clear_4 : decode cX7_clear 4 = .ok (.iconst 0, 1) := by decide +kernel
theorem dX7_clear_5 : decode cX7_clear 5 = .ok (.putfield 16, 3) := by decide +kernel
theorem dX7_clear_8 : decode cX7_clear 8 = .ok (.aload_n 0, 1) := by decide +kernel
theorem dX7_clear_9 : decode cX7_clear 9 = .ok (.iconst 0, 1) := by decide +kernel
theorem dX7_clear_10 : decode cX7_clear 10 = .ok (.putfield 20, 3) := by decide +kernel
theorem dX7_clear_13 : decode cX7_clear 13 = .ok (.return_, 1) := by decide +kernel
set_option maxRecDepth 20000 in
theorem ggX7_look_X7_knows : GoodIn wsX7_look wsX7_knows := goodIn_r _ [10, 3, 11, 12, 13, 14, 15, 16, 17, 18, 19, 20, 21, 22, 23, 24, 25, 26, 27, 50, 51, 52, 53, 54, 37, 38, 39, 40, 41, 42, 43, 44, 45, 46, 47, 48, 49] rfl (by decide +kernel)
set_option maxRecDepth 20000 in
theorem gX7_look_X7_knows : GoodIn wsX7_look (wsV RX7 29 RX7 yX7_knows wsX7_knows) := goodIn_app (goodIn_of _ (by decide +kernel)) ggX7_look_X7_knows
set_option maxRecDepth 20000 in
theorem ggX7_look_X6_next : GoodIn wsX7_look wsX6_next := goodIn_r _ [31, 17, 18, 19, 32, 13, 14, 15, 16, 52, 53, 54] rfl (by decide +kernel)
set_option maxRecDepth 20000 in
theorem gX7_look_X6_next : GoodIn wsX7_look (wsV RX7 33 RX6 yX6_next wsX6_next) := goodIn_app (goodIn_of _ (by decide +kernel)) ggX7_look_X6_next
set_option maxRecDepth 20000 in
theorem ggX7_look_X4_put : GoodIn wsX7_look wsX4_put := goodIn_r _ [36, 25, 26, 27, 37, 38, 39, 40, 41, 42, 43, 44, 45, 46, 47, 48, 49] rfl (by decide +kernel)
set_option maxRecDepth 20000 in
theorem gX7_look_X4_put : GoodIn wsX7_look (wsV RX7 43 RX4 yX4_put wsX4_put) := goodIn_app (goodIn_of _ (by decide +kernel)) ggX7_look_X4_put
theorem dX7_look_0 : decode cX7_look 0 = .ok (.aload_n 1, 1) := by decide +kernel
theorem dX7_look_1 : decode cX7_look 1 = .ok (.getfield 23, 3) := by decide +kernel
theorem dX7_look_4 : decode cX7_look 4 = .ok (.ifCond .eq 16, 3) := by decide +kernel
theorem dX7_look_7 : decode cX7_look 7 = .ok (.aload_n 0, 1) := by decide +kernel
theorem dX7_look_8 : decode cX7_look 8 = .ok (.dup, 1) := by decide +kernel
theorem dX7_look_9 : decode cX7_look 9 = .ok (.getfield 20, 3) := by decide +kernel
theorem dX7_look_12 : decode cX7_look 12 = .ok (.iconst 1, 1) := by decide +kernel
theorem dX7_look_13 : decode cX7_look 13 = .ok (.iadd, 1) := by decide +kernel
theorem dX7_look_14 : decode cX7_look 14 = .ok (.putfield 20, 3) := by decide +kernel
theorem dX7_look_17 : decode cX7_look 17 = .ok (.goto 30, 3) := by decide +kernel
theorem dX7_look_20 : decode cX7_look 20 = .ok (.aload_n 0, 1) := by decide +kernel
theorem dX7_look_21 : decode cX7_look 21 = .ok (.aload_n 1, 1) := by decide +kernel
theorem dX7_look_22 : decode cX7_look 22 = .ok (.invokevirtual 29, 3) := by decide +kernel
theorem dX7_look_25 : decode cX7_look 25 = .ok (.ifCond .ne 22, 3) := by decide +kernel
theorem dX7_look_28 : decode cX7_look 28 = .ok (.aload_n 0, 1) := by decide +kernel
theorem dX7_look_29 : decode cX7_look 29 = .ok (.getfield 10, 3) := by decide +kernel
theorem dX7_look_32 : decode cX7_look 32 = .ok (.invokevirtual 33, 3) := by decide +kernel
theorem dX7_look_35 : decode cX7_look 35 = .ok (.aload_n 1, 1) := by decide +kernel
theorem dX7_look_36 : decode cX7_look 36 = .ok (.getfield 37, 3) := by decide +kernel
theorem dX7_look_39 : decode cX7_look 39 = .ok (.aload_n 1, 1) := by decide +kernel
theorem dX7_look_40 : decode cX7_look 40 = .ok (.getfield 40, 3) := by decide +kernel
theorem dX7_look_43 : decode cX7_look 43 = .ok (.iconst 0, 1) := by decide +kernel
theorem dX7_look_44 : decode cX7_look 44 = .ok (.invokevirtual 43, 3) := by decide +kernel
theorem dX7_look_47 : decode cX7_look 47 = .ok (.return_, 1) := by decide +kernel
set_option maxRecDepth 20000 in
theorem ggX7_knows_X6_at : GoodIn wsX7_knows wsX6_at := goodIn_r _ [7, 8, 9, 10, 21, 22, 23] rfl (by decide +kernel)
set_option maxRecDepth 20000 in
theorem gX7_knows_X6_at : GoodIn wsX7_knows (wsV RX7 47 RX6 yX6_at wsX6_at) := goodIn_app (goodIn_of _ (by decide +kernel)) ggX7_knows_X6_at
set_option maxRecDepth 20000 in
theorem ggX7_knows_X4_isLike : GoodIn wsX7_knows wsX4_isLike := goodIn_r _ [15, 16, 17, 18, 24, 25, 26, 27, 28, 29, 30, 31, 32, 33, 34, 35, 36] rfl (by decide +kernel)
set_option maxRecDepth 20000 in
theorem gX7_knows_X4_isLike : GoodIn wsX7_knows (wsV RX7 51 RX4 yX4_isLike wsX4_isLike) := goodIn_app (goodIn_of _ (by decide +kernel)) ggX7_knows_X4_isLike
theorem dX7_knows_0 : decode cX7_knows 0 = .ok (.iconst 0, 1) := by decide +kernel
theorem dX7_knows_1 : decode cX7_knows 1 = .ok (.istore_n 2, 1) := by decide +kernel
theorem dX7_knows_2 : decode cX7_knows 2 = .ok (.iload_n 2, 1) := by decide +kernel
theorem dX7_knows_3 : decode cX7_knows 3 = .ok (.aload_n 0, 1) := by decide +kernel
theorem dX7_knows_4 : decode cX7_knows 4 = .ok (.getfield 10, 3) := by decide +kernel
theorem dX7_knows_7 : decode cX7_knows 7 = .ok (.getfield 16, 3) := by decide +kernel
theorem dX7_knows_10 : decode cX7_knows 10 = .ok (.if_icmp .ge 26, 3) := by decide +kernel
theorem dX7_knows_13 : decode cX7_knows 13 = .ok (.aload_n 0, 1) := by decide +kernel
theorem dX7_knows_14 : decode cX7_knows 14 = .ok (.getfield 10, 3) := by decide +kernel
theorem dX7_knows_17 : decode cX7_knows 17 = .ok (.iload_n 2, 1) := by decide +kernel
theorem dX7_knows_18 : decode cX7_knows 18 = .ok (.invokevirtual 47, 3) := by decide +kernel
theorem dX7_knows_21 : decode cX7_knows 21 = .ok (.aload_n 1, 1) := by decide +kernel
theorem dX7_knows_22 : decode cX7_knows 22 = .ok (.invokevirtual 51, 3) := by decide +kernel
theorem dX7_knows_25 : decode cX7_knows 25 = .ok (.ifCond .eq 5, 3) := by decide +kernel
theorem dX7_knows_28 : decode cX7_knows 28 = .ok (.iconst 1, 1) := by decide +kernel
theorem dX7_knows_29 : decode cX7_knows 29 = .ok (.ireturn, 1) := by decide +kernel
theorem dX7_knows_30 : decode cX7_knows 30 = .ok (.iinc 2 1, 3) := by decide +kernel
theorem dX7_knows_33 : decode cX7_knows 33 = .ok (.goto (-31), 3) := by decide +kernel
theorem dX7_knows_36 : decode cX7_knows 36 = .ok (.iconst 0, 1) := by decide +kernel
theorem dX7_knows_37 : decode cX7_knows 37 = .ok (.ireturn, 1) := by decide +kernel
set_option maxRecDepth 20000 in
theorem ggX7_sum_X6_at : GoodIn wsX7_sum wsX6_at := goodIn_r _ [9, 10, 11, 12, 15, 16, 17] rfl (by decide +kernel)
set_option maxRecDepth 20000 in
theorem gX7_sum_X6_at : GoodIn wsX7_sum (wsV RX7 47 RX6 yX6_at wsX6_at) := goodIn_app (goodIn_of _ (by decide +kernel)) ggX7_sum_X6_at
theorem dX7_sum_0 : decode cX7_sum 0 = .ok (.iconst 0, 1) := by decide +kernel
theorem dX7_sum_1 : decode cX7_sum 1 = .ok (.istore_n 2, 1) := by decide +kernel
theorem dX7_sum_2 : decode cX7_sum 2 = .ok (.iconst 0, 1) := by decide +kernel
theorem dX7_sum_3 : decode cX7_sum 3 = .ok (.istore_n 3, 1) := by decide +kernel
theorem dX7_sum_4 : decode cX7_sum 4 = .ok (.iload_n 3, 1) := by decide +kernel
theorem dX7_sum_5 : decode cX7_sum 5 = .ok (.aload_n 0, 1) := by decide +kernel
theorem dX7_sum_6 : decode cX7_sum 6 = .ok (.getfield 10, 3) := by decide +kernel
theorem dX7_sum_9 : decode cX7_sum 9 = .ok (.getfield 16, 3) := by decide +kernel
theorem dX7_sum_12 : decode cX7_sum 12 = .ok (.if_icmp .ge 35, 3) := by decide +kernel
theorem dX7_sum_15 : decode cX7_sum 15 = .ok (.aload_n 0, 1) := by decide +kernel
theorem dX7_sum_16 : decode cX7_sum 16 = .ok (.getfield 10, 3) := by decide +kernel
theorem dX7_sum_19 : decode cX7_sum 19 = .ok (.iload_n 3, 1) := by decide +kernel
theorem dX7_sum_20 : decode cX7_sum 20 = .ok (.invokevirtual 47, 3) := by decide +kernel
theorem dX7_sum_23 : decode cX7_sum 23 = .ok (.astore 4, 2) := by decide +kernel
theorem dX7_sum_25 : decode cX7_sum 25 = .ok (.iload_n 2, 1) := by decide +kernel
theorem dX7_sum_26 : decode cX7_sum 26 = .ok (.iload_n 1, 1) := by decide +kernel
theorem dX7_sum_27 : decode cX7_sum 27 = .ok (.aload 4, 2) := by decide +kernel
theorem dX7_sum_29 : decode cX7_sum 29 = .ok (.getfield 37, 3) := by decide +kernel
theorem dX7_sum_32 : decode cX7_sum 32 = .ok (.imul, 1) := by decide +kernel
theorem dX7_sum_33 : decode cX7_sum 33 = .ok (.aload 4, 2) := by decide +kernel
theorem dX7_sum_35 : decode cX7_sum 35 = .ok (.getfield 40, 3) := by decide +kernel
theorem dX7_sum_38 : decode cX7_sum 38 = .ok (.iadd, 1) := by decide +kernel
theorem dX7_sum_39 : decode cX7_sum 39 = .ok (.iadd, 1) := by decide +kernel
theorem dX7_sum_40 : decode cX7_sum 40 = .ok (.istore_n 2, 1) := by decide +kernel
theorem dX7_sum_41 : decode cX7_sum 41 = .ok (.iinc 3 1, 3) := by decide +kernel
theorem dX7_sum_44 : decode cX7_sum 44 = .ok (.goto (-40), 3) := by decide +kernel
theorem dX7_sum_47 : decode cX7_sum 47 = .ok (.iload_n 2, 1) := by decide +kernel
theorem dX7_sum_48 : decode cX7_sum 48 = .ok (.ireturn, 1) := by decide +kernel
set_option maxRecDepth 20000 in
theorem ggX8_init_X5_init : GoodIn wsX8_init wsX5_init := goodIn_r _ [25, 26, 2, 3, 27, 28, 29, 30, 31, 32, 33, 34, 35, 36, 37, 38, 39, 40, 41, 42, 43, 44, 45, 46, 47, 48, 49, 50, 51, 52, 53, 54, 55, 56, 57, 58, 59, 60, 61, 62, 118, 119, 108, 109, 110, 111, 128, 129, 130, 131, 132, 133, 134, 135, 136, 137, 138, 139, 140, 141, 142, 143] rfl (by decide +kernel)
set_option maxRecDepth 20000 in
theorem gX8_init_X5_init_n9 : GoodIn wsX8_init (wsX5_init) := ggX8_init_X5_init
set_option maxRecDepth 20000 in
theorem ggX8_init_X6_init : GoodIn wsX8_init wsX6_init := goodIn_r _ [65, 66, 2, 3, 67, 68, 34, 35, 69, 70, 55, 56, 57, 58, 59, 60, 61, 120, 121, 122, 128, 129, 130, 131, 132, 133, 134, 135, 136, 137, 138, 139, 140] rfl (by decide +kernel)
set_option maxRecDepth 20000 in
theorem gX8_init_X6_init : GoodIn wsX8_init (wsX6_init) := ggX8_init_X6_init
set_option maxRecDepth 20000 in
theorem ggX8_init_X1_init : GoodIn wsX8_init wsX1_init := goodIn_r _ [73, 74, 2, 3, 75, 76, 77, 78, 79, 80, 81, 82, 83, 84, 85, 86, 123, 124, 125, 144, 145, 146, 147, 148] rfl (by decide +kernel)
set_option maxRecDepth 20000 in
theorem gX8_init_X1_init : GoodIn wsX8_init (wsX1_init) := ggX8_init_X1_init
set_option maxRecDepth 20000 in
theorem ggX8_init_X7_init : GoodIn wsX8_init wsX7_init := goodIn_r _ [88, 89, 2, 3, 90, 13, 14, 91, 92, 64, 65, 66, 67, 68, 34, 35, 69, 70, 55, 56, 57, 58, 59, 60, 61, 120, 121, 122, 126, 127, 128, 129, 130, 131, 132, 133, 134, 135, 136, 137, 138, 139, 140] rfl (by decide +kernel)
set_option maxRecDepth 20000 in
theorem gX8_init_X7_init_n44 : GoodIn wsX8_init (wsX7_init) := ggX8_init_X7_init
set_option maxRecDepth 20000 in
theorem ggX8_init_X3_choose : GoodIn wsX8_init wsX3_choose := goodIn_r _ [96, 50, 53, 52, 97, 98, 99, 43, 100, 101, 102, 103, 104, 105, 106, 107, 141, 142, 143] rfl (by decide +kernel)
set_option maxRecDepth 20000 in
theorem gX8_init_X3_choose : GoodIn wsX8_init (wsV RX8 49 RX3 yX3_choose wsX3_choose) := goodIn_app (goodIn_of _ (by decide +kernel)) ggX8_init_X3_choose
theorem dX8_init_0 : decode cX8_init 0 = .ok (.aload_n 0, 1) := by decide +kernel
theorem dX8_init_1 : decode cX8_init 1 = .ok (.invokespecial 1, 3) := by decide +kernel
theorem dX8_init_4 : decode cX8_init 4 = .ok (.aload_n 0, 1) := by decide +kernel
theorem dX8_init_5 : decode cX8_init 5 = .ok (.new 7, 3) := by decide +kernel
theorem dX8_init_8 : decode cX8_init 8 = .ok (.dup, 1) := by decide +kernel
theorem dX8_init_9 : decode cX8_init 9 = .ok (.invokespecial 9, 3) := by decide +kernel
theorem dX8_init_12 : decode cX8_init 12 = .ok (.putfield 10, 3) := by decide +kernel
theorem dX8_init_15 : decode cX8_init 15 = .ok (.aload_n 0, 1) := by decide +kernel
theorem dX8_init_16 : decode cX8_init 16 = .ok (.aload_n 0, 1) := by decide +kernel
theorem dX8_init_17 : decode cX8_init 17 = .ok (.getfield 10, 3) := by decide +kernel
theorem dX8_init_20 : decode cX8_init 20 = .ok (.getfield 16, 3) := by decide +kernel
theorem dX8_init_23 : decode cX8_init 23 = .ok (.putfield 20, 3) := by decide +kernel
theorem dX8_init_26 : decode cX8_init 26 = .ok (.aload_n 0, 1) := by decide +kernel
theorem dX8_init_27 : decode cX8_init 27 = .ok (.aload_n 0, 1) := by decide +kernel
theorem dX8_init_28 : decode cX8_init 28 = .ok (.getfield 20, 3) := by decide +kernel
theorem dX8_init_31 : decode cX8_init 31 = .ok (.getfield 21, 3) := by decide +kernel
theorem dX8_init_34 : decode cX8_init 34 = .ok (.putfield 27, 3) := by decide +kernel
theorem dX8_init_37 : decode cX8_init 37 = .ok (.aload_n 0, 1) := by decide +kernel
theorem dX8_init_38 : decode cX8_init 38 = .ok (.new 28, 3) := by decide +kernel
theorem dX8_init_41 : decode cX8_init 41 = .ok (.dup, 1) := by decide +kernel
theorem dX8_init_42 : decode cX8_init 42 = .ok (.invokespecial 30, 3) := by decide +kernel
theorem dX8_init_45 : decode cX8_init 45 = .ok (.putfield 31, 3) := by decide +kernel
theorem dX8_init_48 : decode cX8_init 48 = .ok (.aload_n 0, 1) := by decide +kernel
theorem dX8_init_49 : decode cX8_init 49 = .ok (.new 35, 3) := by decide +kernel
theorem dX8_init_52 : decode cX8_init 52 = .ok (.dup, 1) := by decide +kernel
theorem dX8_init_53 : decode cX8_init 53 = .ok (.invokespecial 37, 3) := by decide +kernel
theorem dX8_init_56 : decode cX8_init 56 = .ok (.putfield 38, 3) := by decide +kernel
theorem dX8_init_59 : decode cX8_init 59 = .ok (.aload_n 0, 1) := by decide +kernel
theorem dX8_init_60 : decode cX8_init 60 = .ok (.new 42, 3) := by decide +kernel
theorem dX8_init_63 : decode cX8_init 63 = .ok (.dup, 1) := by decide +kernel
theorem dX8_init_64 : decode cX8_init 64 = .ok (.invokespecial 44, 3) := by decide +kernel
theorem dX8_init_67 : decode cX8_init 67 = .ok (.putfield 45, 3) := by decide +kernel
theorem dX8_init_70 : decode cX8_init 70 = .ok (.aload_n 0, 1) := by decide +kernel
theorem dX8_init_71 : decode cX8_init 71 = .ok (.getfield 27, 3) := by decide +kernel
theorem dX8_init_74 : decode cX8_init 74 = .ok (.bipush 43, 2) := by decide +kernel
theorem dX8_init_76 : decode cX8_init 76 = .ok (.invokevirtual 49, 3) := by decide +kernel
theorem dX8_init_79 : decode cX8_init 79 = .ok (.return_, 1) := by decide +kernel
set_option maxRecDepth 20000 in
theorem ggX8_begin_X3_isOffered : GoodIn wsX8_begin wsX3_isOffered := goodIn_r _ [11] rfl (by decide +kernel)
set_option maxRecDepth 20000 in
theorem gX8_begin_X3_isOffered : GoodIn wsX8_begin (va_wsS RX8 55 yX3_isOffered wsX3_isOffered) := goodIn_app (goodIn_of _ (by decide +kernel)) ggX8_begin_X3_isOffered
set_option maxRecDepth 20000 in
theorem ggX8_begin_X3_choose : GoodIn wsX8_begin wsX3_choose := goodIn_r _ [15, 16, 17, 18, 19, 20, 21, 10, 22, 23, 24, 25, 26, 27, 28, 29, 42, 43, 44] rfl (by decide +kernel)
set_option maxRecDepth 20000 in
theorem gX8_begin_X3_choose : GoodIn wsX8_begin (wsV RX8 49 RX3 yX3_choose wsX3_choose) := goodIn_app (goodIn_of _ (by decide +kernel)) ggX8_begin_X3_choose
theorem dX8_begin_0 : decode cX8_begin 0 = .ok (.iload_n 1, 1) := by decide +kernel
theorem dX8_begin_1 : decode cX8_begin 1 = .ok (.invokestatic 55, 3) := by decide +kernel
theorem dX8_begin_4 : decode cX8_begin 4 = .ok (.ifCond .ne 13, 3) := by decide +kernel
theorem dX8_begin_7 : decode cX8_begin 7 = .ok (.new 59, 3) := by decide +kernel
theorem dX8_begin_10 : decode cX8_begin 10 = .ok (.dup, 1) := by decide +kernel
theorem dX8_begin_11 : decode cX8_begin 11 = .ok (.ldc 61, 2) := by decide +kernel
theorem dX8_begin_13 : decode cX8_begin 13 = .ok (.invokespecial 63, 3) := by decide +kernel
theorem dX8_begin_16 : decode cX8_begin 16 = .ok (.athrow, 1) := by decide +kernel
theorem dX8_begin_17 : decode cX8_begin 17 = .ok (.aload_n 0, 1) := by decide +kernel
theorem dX8_begin_18 : decode cX8_begin 18 = .ok (.getfield 27, 3) := by decide +kernel
theorem dX8_begin_21 : decode cX8_begin 21 = .ok (.iload_n 1, 1) := by decide +kernel
theorem dX8_begin_22 : decode cX8_begin 22 = .ok (.invokevirtual 49, 3) := by decide +kernel
theorem dX8_begin_25 : decode cX8_begin 25 = .ok (.aload_n 0, 1) := by decide +kernel
theorem dX8_begin_26 : decode cX8_begin 26 = .ok (.getfield 31, 3) := by decide +kernel
theorem dX8_begin_29 : decode cX8_begin 29 = .ok (.iconst 0, 1) := by decide +kernel
theorem dX8_begin_30 : decode cX8_begin 30 = .ok (.putfield 66, 3) := by decide +kernel
theorem dX8_begin_33 : decode cX8_begin 33 = .ok (.aload_n 0, 1) := by decide +kernel
theorem dX8_begin_34 : decode cX8_begin 34 = .ok (.getfield 38, 3) := by decide +kernel
theorem dX8_begin_37 : decode cX8_begin 37 = .ok (.iconst 0, 1) := by decide +kernel
theorem dX8_begin_38 : decode cX8_begin 38 = .ok (.putfield 70, 3) := by decide +kernel
theorem dX8_begin_41 : decode cX8_begin 41 = .ok (.iload_n 1, 1) := by decide +kernel
theorem dX8_begin_42 : decode cX8_begin 42 = .ok (.iload_n 1, 1) := by decide +kernel
theorem dX8_begin_43 : decode cX8_begin 43 = .ok (.imul, 1) := by decide +kernel
theorem dX8_begin_44 : decode cX8_begin 44 = .ok (.ireturn, 1) := by decide +kernel
set_option maxRecDepth 20000 in
theorem ggX8_count_X6_freePoints : GoodIn wsX8_count wsX6_freePoints := goodIn_r _ [13, 14, 15, 16, 17, 18, 12, 19, 20, 21, 36, 37, 38, 42, 43, 44, 45, 46, 47, 48, 49, 50, 51, 52, 53, 54] rfl (by decide +kernel)
set_option maxRecDepth 20000 in
theorem gX8_count_X6_freePoints : GoodIn wsX8_count (wsV RX8 88 RX6 yX6_freePoints wsX6_freePoints) := goodIn_app (goodIn_of _ (by decide +kernel)) ggX8_count_X6_freePoints
set_option maxRecDepth 20000 in
theorem ggX8_count_X6_lackingOnes : GoodIn wsX8_count wsX6_lackingOnes := goodIn_r _ [25, 14, 26, 16, 17, 18, 12, 19, 20, 21, 36, 37, 38, 42, 43, 44, 45, 46, 47, 48, 49, 50, 51, 52, 53, 54] rfl (by decide +kernel)
set_option maxRecDepth 20000 in
theorem gX8_count_X6_lackingOnes : GoodIn wsX8_count (wsV RX8 92 RX6 yX6_lackingOnes wsX6_lackingOnes) := goodIn_app (goodIn_of _ (by decide +kernel)) ggX8_count_X6_lackingOnes
theorem dX8_count_0 : decode cX8_count 0 = .ok (.iload_n 1, 1) := by decide +kernel
theorem dX8_count_1 : decode cX8_count 1 = .ok (.tableswitch 75 0 4 #[35, 43, 51, 59, 67], 35) := by decide +kernel
theorem dX8_count_36 : decode cX8_count 36 = .ok (.aload_n 0, 1) := by decide +kernel
theorem dX8_count_37 : decode cX8_count 37 = .ok (.getfield 27, 3) := by decide +kernel
theorem dX8_count_40 : decode cX8_count 40 = .ok (.getfield 85, 3) := by decide +kernel
theorem dX8_count_43 : decode cX8_count 43 = .ok (.ireturn, 1) := by decide +kernel
theorem dX8_count_44 : decode cX8_count 44 = .ok (.aload_n 0, 1) := by decide +kernel
theorem dX8_count_45 : decode cX8_count 45 = .ok (.getfield 31, 3) := by decide +kernel
theorem dX8_count_48 : decode cX8_count 48 = .ok (.getfield 66, 3) := by decide +kernel
theorem dX8_count_51 : decode cX8_count 51 = .ok (.ireturn, 1) := by decide +kernel
theorem dX8_count_52 : decode cX8_count 52 = .ok (.aload_n 0, 1) := by decide +kernel
theorem dX8_count_53 : decode cX8_count 53 = .ok (.getfield 38, 3) := by decide +kernel
theorem dX8_count_56 : decode cX8_count 56 = .ok (.getfield 70, 3) := by decide +kernel
theorem dX8_count_59 : decode cX8_count 59 = .ok (.ireturn, 1) := by decide +kernel
theorem dX8_count_60 : decode cX8_count 60 = .ok (.aload_n 0, 1) := by decide +kernel
theorem dX8_count_61 : decode cX8_count 61 = .ok (.getfield 31, 3) := by decide +kernel
theorem dX8_count_64 : decode cX8_count 64 = .ok (.invokevirtual 88, 3) := by decide +kernel
theorem dX8_count_67 : decode cX8_count 67 = .ok (.ireturn, 1) := by decide +kernel
theorem dX8_count_68 : decode cX8_count 68 = .ok (.aload_n 0, 1) := by decide +kernel
theorem dX8_count_69 : decode cX8_count 69 = .ok (.getfield 31, 3) := by decide +kernel
theorem dX8_count_72 : decode cX8_count 72 = .ok (.invokevirtual 92, 3) := by decide +kernel
theorem dX8_count_75 : decode cX8_count 75 = .ok (.ireturn, 1) := by decide +kernel
theorem dX8_count_76 : decode cX8_count 76 = .ok (.new 95, 3) := by decide +kernel
theorem dX8_count_79 : decode cX8_count 79 = .ok (.dup, 1) := by decide +kernel
theorem dX8_count_80 : decode cX8_count 80 = .ok (.ldc 97, 2) := by decide +kernel
theorem dX8_count_82 : decode cX8_count 82 = .ok (.invokespecial 99, 3) := by decide +kernel
theorem dX8_count_85 : decode cX8_count 85 = .ok (.athrow, 1) := by decide +kernel
set_option maxRecDepth 20000 in
theorem ggX8_point_X6_has : GoodIn wsX8_point wsX6_has := goodIn_r _ [15, 16, 173, 174, 175] rfl (by decide +kernel)
set_option maxRecDepth 20000 in
theorem gX8_point_X6_has : GoodIn wsX8_point (wsV RX8 100 RX6 yX6_has wsX6_has) := goodIn_app (goodIn_of _ (by decide +kernel)) ggX8_point_X6_has
set_option maxRecDepth 20000 in
theorem ggX8_point_X6_at : GoodIn wsX8_point wsX6_at := goodIn_r _ [20, 16, 21, 22, 173, 174, 175] rfl (by decide +kernel)
set_option maxRecDepth 20000 in
theorem gX8_point_X6_at : GoodIn wsX8_point (wsV RX8 103 RX6 yX6_at wsX6_at) := goodIn_app (goodIn_of _ (by decide +kernel)) ggX8_point_X6_at
set_option maxRecDepth 20000 in
theorem ggX8_point_X4_sort : GoodIn wsX8_point wsX4_sort := goodIn_r _ [27, 28, 176, 177, 178, 179, 180, 181, 182, 183, 184, 185, 186, 187, 188] rfl (by decide +kernel)
set_option maxRecDepth 20000 in
theorem gX8_point_X4_sort : GoodIn wsX8_point (wsV RX8 107 RX4 yX4_sort wsX4_sort) := goodIn_app (goodIn_of _ (by decide +kernel)) ggX8_point_X4_sort
set_option maxRecDepth 20000 in
theorem ggX8_point_X3_has : GoodIn wsX8_point wsX3_has := goodIn_r _ [33, 34, 189, 190, 191] rfl (by decide +kernel)
set_option maxRecDepth 20000 in
theorem gX8_point_X3_has : GoodIn wsX8_point (wsV RX8 71 RX3 yX3_has wsX3_has) := goodIn_app (goodIn_of _ (by decide +kernel)) ggX8_point_X3_has
set_option maxRecDepth 20000 in
theorem ggX8_point_X6_next : GoodIn wsX8_point wsX6_next := goodIn_r _ [38, 16, 21, 22, 39, 18, 19, 14, 20, 173, 174, 175] rfl (by decide +kernel)
set_option maxRecDepth 20000 in
theorem gX8_point_X6_next : GoodIn wsX8_point (wsV RX8 121 RX6 yX6_next wsX6_next) := goodIn_app (goodIn_of _ (by decide +kernel)) ggX8_point_X6_next
set_option maxRecDepth 20000 in
theorem ggX8_point_X4_become : GoodIn wsX8_point wsX4_become := goodIn_r _ [43, 28, 44, 45, 46, 176, 177, 178, 179, 180, 181, 182, 183, 184, 185, 186, 187, 188] rfl (by decide +kernel)
set_option maxRecDepth 20000 in
theorem gX8_point_X4_become : GoodIn wsX8_point (wsV RX8 125 RX4 yX4_become wsX4_become) := goodIn_app (goodIn_of _ (by decide +kernel)) ggX8_point_X4_become
set_option maxRecDepth 20000 in
theorem ggX8_point_X4_tell : GoodIn wsX8_point wsX4_tell := goodIn_r _ [50, 51, 52, 176, 177, 178, 179, 180, 181, 182, 183, 184, 185, 186, 187, 188] rfl (by decide +kernel)
set_option maxRecDepth 20000 in
theorem gX8_point_X4_tell : GoodIn wsX8_point (wsV RX8 129 RX4 yX4_tell wsX4_tell) := goodIn_app (goodIn_of _ (by decide +kernel)) ggX8_point_X4_tell
set_option maxRecDepth 20000 in
theorem ggX8_point_X8_remake : GoodIn wsX8_point wsX8_remake := goodIn_r _ [57, 7, 58, 59, 60, 61, 62, 17, 18, 19, 14, 20, 16, 21, 22, 63, 64, 65, 66, 67, 68, 69, 70, 71, 72, 73, 74, 75, 76, 77, 78, 79, 80, 81, 32, 82, 34, 83, 84, 85, 86, 87, 88, 89, 26, 90, 91, 92, 93, 94, 95, 96, 97, 98, 99, 100, 101, 102, 103, 104, 105, 106, 107, 108, 109, 110, 111, 112, 113, 114, 115, 116, 117, 118, 119, 120, 121, 122, 123, 124, 125, 126, 127, 128, 129, 130, 131, 132, 133, 134, 135, 136, 137, 138, 139, 140, 141, 142, 143, 144, 145, 146, 147, 148, 149, 150, 151, 152, 153, 154, 155, 156, 157, 158, 159, 160, 161, 162, 163, 164, 165, 166, 167, 168, 169, 170, 171, 172, 176, 177, 178, 179, 180, 181, 182, 183, 184, 185, 186, 187, 188, 173, 174, 175, 192, 193, 189, 190, 191] rfl (by decide +kernel)
set_option maxRecDepth 20000 in
theorem gX8_point_X8_remake : GoodIn wsX8_point (wsV RX8 133 RX8 yX8_remake wsX8_remake) := goodIn_app (goodIn_of _ (by decide +kernel)) ggX8_point_X8_remake
theorem dX8_point_0 : decode cX8_point 0 = .ok (.iload_n 1, 1) := by decide +kernel
theorem dX8_point_1 : decode cX8_point 1 = .ok (.iconst (-1), 1) := by decide +kernel
theorem dX8_point_2 : decode cX8_point 2 = .ok (.if_icmp .ne 7, 3) := by decide +kernel
theorem dX8_point_5 : decode cX8_point 5 = .ok (.iconst 1, 1) := by decide +kernel
theorem dX8_point_6 : decode cX8_point 6 = .ok (.goto 4, 3) := by decide +kernel
theorem dX8_point_9 : decode cX8_point 9 = .ok (.iconst 0, 1) := by decide +kernel
theorem dX8_point_10 : decode cX8_point 10 = .ok (.istore 4, 2) := by decide +kernel
theorem dX8_point_12 : decode cX8_point 12 = .ok (.iload 4, 2) := by decide +kernel
theorem dX8_point_14 : decode cX8_point 14 = .ok (.ifCond .ne 24, 3) := by decide +kernel
theorem dX8_point_17 : decode cX8_point 17 = .ok (.aload_n 0, 1) := by decide +kernel
theorem dX8_point_18 : decode cX8_point 18 = .ok (.getfield 31, 3) := by decide +kernel
theorem dX8_point_21 : decode cX8_point 21 = .ok (.iload_n 1, 1) := by decide +kernel
theorem dX8_point_22 : decode cX8_point 22 = .ok (.invokevirtual 100, 3) := by decide +kernel
theorem dX8_point_25 : decode cX8_point 25 = .ok (.ifCond .ne 13, 3) := by decide +kernel
theorem dX8_point_28 : decode cX8_point 28 = .ok (.new 95, 3) := by decide +kernel
theorem dX8_point_31 : decode cX8_point 31 = .ok (.dup, 1) := by decide +kernel
theorem dX8_point_32 : decode cX8_point 32 = .ok (.ldc 101, 2) := by decide +kernel
theorem dX8_point_34 : decode cX8_point 34 = .ok (.invokespecial 99, 3) := by decide +kernel
theorem dX8_point_37 : decode cX8_point 37 = .ok (.athrow, 1) := by decide +kernel
theorem dX8_point_38 : decode cX8_point 38 = .ok (.iload 4, 2) := by decide +kernel
theorem dX8_point_40 : decode cX8_point 40 = .ok (.ifCond .ne 28, 3) := by decide +kernel
theorem dX8_point_43 : decode cX8_point 43 = .ok (.aload_n 0, 1) := by decide +kernel
theorem dX8_point_44 : decode cX8_point 44 = .ok (.getfield 31, 3) := by decide +kernel
theorem dX8_point_47 : decode cX8_point 47 = .ok (.iload_n 1, 1) := by decide +kernel
theorem dX8_point_48 : decode cX8_point 48 = .ok (.invokevirtual 103, 3) := by decide +kernel
theorem dX8_point_51 : decode cX8_point 51 = .ok (.invokevirtual 107, 3) := by decide +kernel
theorem dX8_point_54 : decode cX8_point 54 = .ok (.iconst 1, 1) := by decide +kernel
theorem dX8_point_55 : decode cX8_point 55 = .ok (.if_icmp .eq 13, 3) := by decide +kernel
theorem dX8_point_58 : decode cX8_point 58 = .ok (.new 59, 3) := by decide +kernel
theorem dX8_point_61 : decode cX8_point 61 = .ok (.dup, 1) := by decide +kernel
theorem dX8_point_62 : decode cX8_point 62 = .ok (.ldc 112, 2) := by decide +kernel
theorem dX8_point_64 : decode cX8_point 64 = .ok (.invokespecial 63, 3) := by decide +kernel
theorem dX8_point_67 : decode cX8_point 67 = .ok (.athrow, 1) := by decide +kernel
theorem dX8_point_68 : decode cX8_point 68 = .ok (.aload_n 0, 1) := by decide +kernel
theorem dX8_point_69 : decode cX8_point 69 = .ok (.getfield 27, 3) := by decide +kernel
theorem dX8_point_72 : decode cX8_point 72 = .ok (.iload_n 2, 1) := by decide +kernel
theorem dX8_point_73 : decode cX8_point 73 = .ok (.invokevirtual 71, 3) := by decide +kernel
theorem dX8_point_76 : decode cX8_point 76 = .ok (.ifCond .eq 19, 3) := by decide +kernel
theorem dX8_point_79 : decode cX8_point 79 = .ok (.iload 4, 2) := by decide +kernel
theorem dX8_point_81 : decode cX8_point 81 = .ok (.ifCond .eq 24, 3) := by decide +kernel
theorem dX8_point_84 : decode cX8_point 84 = .ok (.aload_n 0, 1) := by decide +kernel
theorem dX8_point_85 : decode cX8_point 85 = .ok (.getfield 27, 3) := by decide +kernel
theorem dX8_point_88 : decode cX8_point 88 = .ok (.iload_n 3, 1) := by decide +kernel
theorem dX8_point_89 : decode cX8_point 89 = .ok (.invokevirtual 71, 3) := by decide +kernel
theorem dX8_point_92 : decode cX8_point 92 = .ok (.ifCond .ne 13, 3) := by decide +kernel
theorem dX8_point_95 : decode cX8_point 95 = .ok (.new 59, 3) := by decide +kernel
theorem dX8_point_98 : decode cX8_point 98 = .ok (.dup, 1) := by decide +kernel
theorem dX8_point_99 : decode cX8_point 99 = .ok (.ldc 114, 2) := by decide +kernel
theorem dX8_point_101 : decode cX8_point 101 = .ok (.invokespecial 63, 3) := by decide +kernel
theorem dX8_point_104 : decode cX8_point 104 = .ok (.athrow, 1) := by decide +kernel
theorem dX8_point_105 : decode cX8_point 105 = .ok (.aload_n 0, 1) := by decide +kernel
theorem dX8_point_106 : decode cX8_point 106 = .ok (.getfield 31, 3) := by decide +kernel
theorem dX8_point_109 : decode cX8_point 109 = .ok (.getfield 66, 3) := by decide +kernel
theorem dX8_point_112 : decode cX8_point 112 = .ok (.bipush 40, 2) := by decide +kernel
theorem dX8_point_114 : decode cX8_point 114 = .ok (.if_icmp .lt 13, 3) := by decide +kernel
theorem dX8_point_117 : decode cX8_point 117 = .ok (.new 116, 3) := by decide +kernel
theorem dX8_point_120 : decode cX8_point 120 = .ok (.dup, 1) := by decide +kernel
theorem dX8_point_121 : decode cX8_point 121 = .ok (.ldc 118, 2) := by decide +kernel
theorem dX8_point_123 : decode cX8_point 123 = .ok (.invokespecial 120, 3) := by decide +kernel
theorem dX8_point_126 : decode cX8_point 126 = .ok (.athrow, 1) := by decide +kernel
theorem dX8_point_127 : decode cX8_point 127 = .ok (.aload_n 0, 1) := by decide +kernel
theorem dX8_point_128 : decode cX8_point 128 = .ok (.getfield 31, 3) := by decide +kernel
theorem dX8_point_131 : decode cX8_point 131 = .ok (.invokevirtual 121, 3) := by decide +kernel
theorem dX8_point_134 : decode cX8_point 134 = .ok (.astore 5, 2) := by decide +kernel
theorem dX8_point_136 : decode cX8_point 136 = .ok (.aload 5, 2) := by decide +kernel
theorem dX8_point_138 : decode cX8_point 138 = .ok (.iload 4, 2) := by decide +kernel
theorem dX8_point_140 : decode cX8_point 140 = .ok (.ifCond .eq 7, 3) := by decide +kernel
theorem dX8_point_143 : decode cX8_point 143 = .ok (.iconst 0, 1) := by decide +kernel
theorem dX8_point_144 : decode cX8_point 144 = .ok (.goto 4, 3) := by decide +kernel
theorem dX8_point_147 : decode cX8_point 147 = .ok (.iconst 1, 1) := by decide +kernel
theorem dX8_point_148 : decode cX8_point 148 = .ok (.iload_n 1, 1) := by decide +kernel
theorem dX8_point_149 : decode cX8_point 149 = .ok (.iconst (-1), 1) := by decide +kernel
theorem dX8_point_150 : decode cX8_point 150 = .ok (.iconst (-1), 1) := by decide +kernel
theorem dX8_point_151 : decode cX8_point 151 = .ok (.invokevirtual 125, 3) := by decide +kernel
theorem dX8_point_154 : decode cX8_point 154 = .ok (.aload 5, 2) := by decide +kernel
theorem dX8_point_156 : decode cX8_point 156 = .ok (.iload_n 2, 1) := by decide +kernel
theorem dX8_point_157 : decode cX8_point 157 = .ok (.iload_n 3, 1) := by decide +kernel
theorem dX8_point_158 : decode cX8_point 158 = .ok (.invokevirtual 129, 3) := by decide +kernel
theorem dX8_point_161 : decode cX8_point 161 = .ok (.aload_n 0, 1) := by decide +kernel
theorem dX8_point_162 : decode cX8_point 162 = .ok (.aload 5, 2) := by decide +kernel
theorem dX8_point_164 : decode cX8_point 164 = .ok (.invokevirtual 133, 3) := by decide +kernel
theorem dX8_point_167 : decode cX8_point 167 = .ok (.aload 5, 2) := by decide +kernel
theorem dX8_point_169 : decode cX8_point 169 = .ok (.getfield 137, 3) := by decide +kernel
theorem dX8_point_172 : decode cX8_point 172 = .ok (.ireturn, 1) := by decide +kernel
set_option maxRecDepth 20000 in
theorem ggX8_make_X8_isWayToMake : GoodIn wsX8_make wsX8_isWayToMake := goodIn_r _ [14, 7, 15, 16, 13, 17] rfl (by decide +kernel)
set_option maxRecDepth 20000 in
theorem gX8_make_X8_isWayToMake : GoodIn wsX8_make (va_wsS RX8 140 yX8_isWayToMake wsX8_isWayToMake) := goodIn_app (goodIn_of _ (by decide +kernel)) ggX8_make_X8_isWayToMake
set_option maxRecDepth 20000 in
theorem ggX8_make_X8_entry : GoodIn wsX8_make wsX8_entry := goodIn_r _ [17] rfl (by decide +kernel)
set_option maxRecDepth 20000 in
theorem gX8_make_X8_entry : GoodIn wsX8_make (va_wsS RX8 149 yX8_entry wsX8_entry) := goodIn_app (goodIn_of _ (by decide +kernel)) ggX8_make_X8_entry
set_option maxRecDepth 20000 in
theorem ggX8_make_X8_isThere : GoodIn wsX8_make wsX8_isThere := goodIn_r _ [21, 8, 22, 23, 24, 25, 26, 27, 171, 172, 173, 174, 175, 176, 177, 178, 179] rfl (by decide +kernel)
set_option maxRecDepth 20000 in
theorem gX8_make_X8_isThere : GoodIn wsX8_make (wsV RX8 153 RX8 yX8_isThere wsX8_isThere) := goodIn_app (goodIn_of _ (by decide +kernel)) ggX8_make_X8_isThere
set_option maxRecDepth 20000 in
theorem ggX8_make_X8_fits : GoodIn wsX8_make wsX8_fits := goodIn_r _ [31, 8, 32, 33, 34, 25, 35, 27, 36, 37, 38, 39, 40, 41, 42, 43, 171, 172, 173, 174, 175, 176, 177, 178, 179, 180, 181, 182, 183, 184, 185, 186, 187, 188, 189, 190, 191, 192] rfl (by decide +kernel)
set_option maxRecDepth 20000 in
theorem gX8_make_X8_fits : GoodIn wsX8_make (wsV RX8 159 RX8 yX8_fits wsX8_fits) := goodIn_app (goodIn_of _ (by decide +kernel)) ggX8_make_X8_fits
set_option maxRecDepth 20000 in
theorem ggX8_make_X6_next : GoodIn wsX8_make wsX6_next := goodIn_r _ [47, 27, 36, 37, 48, 33, 34, 25, 35, 177, 178, 179] rfl (by decide +kernel)
set_option maxRecDepth 20000 in
theorem gX8_make_X6_next : GoodIn wsX8_make (wsV RX8 121 RX6 yX6_next wsX6_next) := goodIn_app (goodIn_of _ (by decide +kernel)) ggX8_make_X6_next
set_option maxRecDepth 20000 in
theorem ggX8_make_X4_become : GoodIn wsX8_make wsX4_become := goodIn_r _ [52, 43, 53, 54, 55, 180, 181, 182, 183, 184, 185, 186, 187, 188, 189, 190, 191, 192] rfl (by decide +kernel)
set_option maxRecDepth 20000 in
theorem gX8_make_X4_become : GoodIn wsX8_make (wsV RX8 125 RX4 yX4_become wsX4_become) := goodIn_app (goodIn_of _ (by decide +kernel)) ggX8_make_X4_become
set_option maxRecDepth 20000 in
theorem ggX8_make_X8_remake : GoodIn wsX8_make wsX8_remake := goodIn_r _ [59, 8, 60, 61, 62, 63, 64, 32, 33, 34, 25, 35, 27, 36, 37, 65, 66, 67, 68, 69, 70, 71, 72, 73, 74, 75, 76, 77, 78, 79, 80, 81, 82, 83, 84, 85, 86, 87, 88, 89, 90, 91, 92, 93, 41, 94, 95, 96, 97, 98, 99, 100, 101, 102, 103, 104, 105, 106, 107, 108, 109, 110, 111, 112, 113, 114, 115, 116, 117, 118, 119, 120, 121, 122, 123, 124, 125, 126, 127, 128, 129, 130, 131, 132, 133, 134, 135, 136, 137, 138, 139, 140, 141, 142, 143, 144, 145, 146, 147, 148, 149, 150, 151, 152, 153, 154, 155, 156, 157, 158, 159, 160, 161, 162, 163, 164, 165, 166, 167, 168, 169, 170, 171, 172, 173, 174, 175, 176, 180, 181, 182, 183, 184, 185, 186, 187, 188, 189, 190, 191, 192, 177, 178, 179, 193, 194, 195, 196, 197] rfl (by decide +kernel)
set_option maxRecDepth 20000 in
theorem gX8_make_X8_remake : GoodIn wsX8_make (wsV RX8 133 RX8 yX8_remake wsX8_remake) := goodIn_app (goodIn_of _ (by decide +kernel)) ggX8_make_X8_remake
theorem dX8_make_0 : decode cX8_make 0 = .ok (.iload_n 1, 1) := by decide +kernel
theorem dX8_make_1 : decode cX8_make 1 = .ok (.invokestatic 140, 3) := by decide +kernel
theorem dX8_make_4 : decode cX8_make 4 = .ok (.ifCond .ne 13, 3) := by decide +kernel
theorem dX8_make_7 : decode cX8_make 7 = .ok (.new 59, 3) := by decide +kernel
theorem dX8_make_10 : decode cX8_make 10 = .ok (.dup, 1) := by decide +kernel
theorem dX8_make_11 : decode cX8_make 11 = .ok (.ldc 143, 2) := by decide +kernel
theorem dX8_make_13 : decode cX8_make 13 = .ok (.invokespecial 63, 3) := by decide +kernel
theorem dX8_make_16 : decode cX8_make 16 = .ok (.athrow, 1) := by decide +kernel
theorem dX8_make_17 : decode cX8_make 17 = .ok (.getstatic 145, 3) := by decide +kernel
theorem dX8_make_20 : decode cX8_make 20 = .ok (.iconst 3, 1) := by decide +kernel
theorem dX8_make_21 : decode cX8_make 21 = .ok (.iload_n 1, 1) := by decide +kernel
theorem dX8_make_22 : decode cX8_make 22 = .ok (.imul, 1) := by decide +kernel
theorem dX8_make_23 : decode cX8_make 23 = .ok (.invokestatic 149, 3) := by decide +kernel
theorem dX8_make_26 : decode cX8_make 26 = .ok (.istore 5, 2) := by decide +kernel
theorem dX8_make_28 : decode cX8_make 28 = .ok (.getstatic 145, 3) := by decide +kernel
theorem dX8_make_31 : decode cX8_make 31 = .ok (.iconst 3, 1) := by decide +kernel
theorem dX8_make_32 : decode cX8_make 32 = .ok (.iload_n 1, 1) := by decide +kernel
theorem dX8_make_33 : decode cX8_make 33 = .ok (.imul, 1) := by decide +kernel
theorem dX8_make_34 : decode cX8_make 34 = .ok (.iconst 1, 1) := by decide +kernel
theorem dX8_make_35 : decode cX8_make 35 = .ok (.iadd, 1) := by decide +kernel
theorem dX8_make_36 : decode cX8_make 36 = .ok (.invokestatic 149, 3) := by decide +kernel
theorem dX8_make_39 : decode cX8_make 39 = .ok (.istore 6, 2) := by decide +kernel
theorem dX8_make_41 : decode cX8_make 41 = .ok (.getstatic 145, 3) := by decide +kernel
theorem dX8_make_44 : decode cX8_make 44 = .ok (.iconst 3, 1) := by decide +kernel
theorem dX8_make_45 : decode cX8_make 45 = .ok (.iload_n 1, 1) := by decide +kernel
theorem dX8_make_46 : decode cX8_make 46 = .ok (.imul, 1) := by decide +kernel
theorem dX8_make_47 : decode cX8_make 47 = .ok (.iconst 2, 1) := by decide +kernel
theorem dX8_make_48 : decode cX8_make 48 = .ok (.iadd, 1) := by decide +kernel
theorem dX8_make_49 : decode cX8_make 49 = .ok (.invokestatic 149, 3) := by decide +kernel
theorem dX8_make_52 : decode cX8_make 52 = .ok (.istore 7, 2) := by decide +kernel
theorem dX8_make_54 : decode cX8_make 54 = .ok (.aload_n 0, 1) := by decide +kernel
theorem dX8_make_55 : decode cX8_make 55 = .ok (.iload_n 2, 1) := by decide +kernel
theorem dX8_make_56 : decode cX8_make 56 = .ok (.iload 5, 2) := by decide +kernel
theorem dX8_make_58 : decode cX8_make 58 = .ok (.invokevirtual 153, 3) := by decide +kernel
theorem dX8_make_61 : decode cX8_make 61 = .ok (.ifCond .eq 24, 3) := by decide +kernel
theorem dX8_make_64 : decode cX8_make 64 = .ok (.aload_n 0, 1) := by decide +kernel
theorem dX8_make_65 : decode cX8_make 65 = .ok (.iload_n 3, 1) := by decide +kernel
theorem dX8_make_66 : decode cX8_make 66 = .ok (.iload 6, 2) := by decide +kernel
theorem dX8_make_68 : decode cX8_make 68 = .ok (.invokevirtual 153, 3) := by decide +kernel
theorem dX8_make_71 : decode cX8_make 71 = .ok (.ifCond .eq 14, 3) := by decide +kernel
theorem dX8_make_74 : decode cX8_make 74 = .ok (.aload_n 0, 1) := by decide +kernel
theorem dX8_make_75 : decode cX8_make 75 = .ok (.iload 4, 2) := by decide +kernel
theorem dX8_make_77 : decode cX8_make 77 = .ok (.iload 7, 2) := by decide +kernel
theorem dX8_make_79 : decode cX8_make 79 = .ok (.invokevirtual 153, 3) := by decide +kernel
theorem dX8_make_82 : decode cX8_make 82 = .ok (.ifCond .ne 13, 3) := by decide +kernel
theorem dX8_make_85 : decode cX8_make 85 = .ok (.new 95, 3) := by decide +kernel
theorem dX8_make_88 : decode cX8_make 88 = .ok (.dup, 1) := by decide +kernel
theorem dX8_make_89 : decode cX8_make 89 = .ok (.ldc 157, 2) := by decide +kernel
theorem dX8_make_91 : decode cX8_make 91 = .ok (.invokespecial 99, 3) := by decide +kernel
theorem dX8_make_94 : decode cX8_make 94 = .ok (.athrow, 1) := by decide +kernel
theorem dX8_make_95 : decode cX8_make 95 = .ok (.aload_n 0, 1) := by decide +kernel
theorem dX8_make_96 : decode cX8_make 96 = .ok (.iload_n 2, 1) := by decide +kernel
theorem dX8_make_97 : decode cX8_make 97 = .ok (.iload 5, 2) := by decide +kernel
theorem dX8_make_99 : decode cX8_make 99 = .ok (.invokevirtual 159, 3) := by decide +kernel
theorem dX8_make_102 : decode cX8_make 102 = .ok (.ifCond .eq 24, 3) := by decide +kernel
theorem dX8_make_105 : decode cX8_make 105 = .ok (.aload_n 0, 1) := by decide +kernel
theorem dX8_make_106 : decode cX8_make 106 = .ok (.iload_n 3, 1) := by decide +kernel
theorem dX8_make_107 : decode cX8_make 107 = .ok (.iload 6, 2) := by decide +kernel
theorem dX8_make_109 : decode cX8_make 109 = .ok (.invokevirtual 159, 3) := by decide +kernel
theorem dX8_make_112 : decode cX8_make 112 = .ok (.ifCond .eq 14, 3) := by decide +kernel
theorem dX8_make_115 : decode cX8_make 115 = .ok (.aload_n 0, 1) := by decide +kernel
theorem dX8_make_116 : decode cX8_make 116 = .ok (.iload 4, 2) := by decide +kernel
theorem dX8_make_118 : decode cX8_make 118 = .ok (.iload 7, 2) := by decide +kernel
theorem dX8_make_120 : decode cX8_make 120 = .ok (.invokevirtual 159, 3) := by decide +kernel
theorem dX8_make_123 : decode cX8_make 123 = .ok (.ifCond .ne 13, 3) := by decide +kernel
theorem dX8_make_126 : decode cX8_make 126 = .ok (.new 116, 3) := by decide +kernel
theorem dX8_make_129 : decode cX8_make 129 = .ok (.dup, 1) := by decide +kernel
theorem dX8_make_130 : decode cX8_make 130 = .ok (.ldc 162, 2) := by decide +kernel
theorem dX8_make_132 : decode cX8_make 132 = .ok (.invokespecial 120, 3) := by decide +kernel
theorem dX8_make_135 : decode cX8_make 135 = .ok (.athrow, 1) := by decide +kernel
theorem dX8_make_136 : decode cX8_make 136 = .ok (.aload_n 0, 1) := by decide +kernel
theorem dX8_make_137 : decode cX8_make 137 = .ok (.getfield 31, 3) := by decide +kernel
theorem dX8_make_140 : decode cX8_make 140 = .ok (.getfield 66, 3) := by decide +kernel
theorem dX8_make_143 : decode cX8_make 143 = .ok (.bipush 40, 2) := by decide +kernel
theorem dX8_make_145 : decode cX8_make 145 = .ok (.if_icmp .lt 13, 3) := by decide +kernel
theorem dX8_make_148 : decode cX8_make 148 = .ok (.new 116, 3) := by decide +kernel
theorem dX8_make_151 : decode cX8_make 151 = .ok (.dup, 1) := by decide +kernel
theorem dX8_make_152 : decode cX8_make 152 = .ok (.ldc 118, 2) := by decide +kernel
theorem dX8_make_154 : decode cX8_make 154 = .ok (.invokespecial 120, 3) := by decide +kernel
theorem dX8_make_157 : decode cX8_make 157 = .ok (.athrow, 1) := by decide +kernel
theorem dX8_make_158 : decode cX8_make 158 = .ok (.aload_n 0, 1) := by decide +kernel
theorem dX8_make_159 : decode cX8_make 159 = .ok (.getfield 31, 3) := by decide +kernel
theorem dX8_make_162 : decode cX8_make 162 = .ok (.invokevirtual 121, 3) := by decide +kernel
theorem dX8_make_165 : decode cX8_make 165 = .ok (.astore 8, 2) := by decide +kernel
theorem dX8_make_167 : decode cX8_make 167 = .ok (.aload 8, 2) := by decide +kernel
theorem dX8_make_169 : decode cX8_make 169 = .ok (.iload_n 1, 1) := by decide +kernel
theorem dX8_make_170 : decode cX8_make 170 = .ok (.iload_n 2, 1) := by decide +kernel
theorem dX8_make_171 : decode cX8_make 171 = .ok (.iload_n 3, 1) := by decide +kernel
theorem dX8_make_172 : decode cX8_make 172 = .ok (.iload 7, 2) := by decide +kernel
theorem dX8_make_174 : decode cX8_make 174 = .ok (.iconst (-1), 1) := by decide +kernel
theorem dX8_make_175 : decode cX8_make 175 = .ok (.if_icmp .ne 7, 3) := by decide +kernel
theorem dX8_make_178 : decode cX8_make 178 = .ok (.iconst (-1), 1) := by decide +kernel
theorem dX8_make_179 : decode cX8_make 179 = .ok (.goto 5, 3) := by decide +kernel
theorem dX8_make_182 : decode cX8_make 182 = .ok (.iload 4, 2) := by decide +kernel
theorem dX8_make_184 : decode cX8_make 184 = .ok (.invokevirtual 125, 3) := by decide +kernel
theorem dX8_make_187 : decode cX8_make 187 = .ok (.aload_n 0, 1) := by decide +kernel
theorem dX8_make_188 : decode cX8_make 188 = .ok (.aload 8, 2) := by decide +kernel
theorem dX8_make_190 : decode cX8_make 190 = .ok (.invokevirtual 133, 3) := by decide +kernel
