set_option maxRecDepth 20000 in
theorem ggX4_highestOf_X4_eyeOf : GoodIn wsX4_highestOf wsX4_eyeOf := goodIn_r _ [10, 1, 11, 12, 13, 14, 15, 16, 17, 18, 19, 20, 21, 22, 23, 24, 25, 26, 27, 28, 29, 30, 31, 32, 33, 34, 35, 36, 37, 38, 39, 40, 41, 42, 43] (by decide +kernel) (by decide +kernel)
set_option maxRecDepth 20000 in
theorem gX4_highestOf_X4_eyeOf : GoodIn wsX4_highestOf (wsV RX4 46 RX4 yX4_eyeOf wsX4_eyeOf) := goodIn_app (goodIn_of _ (by decide +kernel)) ggX4_highestOf_X4_eyeOf
theorem dX4_highestOf_0 : decode cX4_highestOf 0 = .ok (.iconst 0, 1) := by decide +kernel
theorem dX4_highestOf_1 : decode cX4_highestOf 1 = .ok (.istore_n 2, 1) := by decide +kernel
theorem dX4_highestOf_2 : decode cX4_highestOf 2 = .ok (.iconst 0, 1) := by decide +kernel
theorem dX4_highestOf_3 : decode cX4_highestOf 3 = .ok (.istore_n 3, 1) := by decide +kernel
theorem dX4_highestOf_4 : decode cX4_highestOf 4 = .ok (.iconst 0, 1) := by decide +kernel
theorem dX4_highestOf_5 : decode cX4_highestOf 5 = .ok (.istore 4, 2) := by decide +kernel
theorem dX4_highestOf_7 : decode cX4_highestOf 7 = .ok (.iload 4, 2) := by decide +kernel
theorem dX4_highestOf_9 : decode cX4_highestOf 9 = .ok (.aload_n 0, 1) := by decide +kernel
theorem dX4_highestOf_10 : decode cX4_highestOf 10 = .ok (.getfield 21, 3) := by decide +kernel
theorem dX4_highestOf_13 : decode cX4_highestOf 13 = .ok (.getfield 99, 3) := by decide +kernel
theorem dX4_highestOf_16 : decode cX4_highestOf 16 = .ok (.if_icmp .ge 38, 3) := by decide +kernel
theorem dX4_highestOf_19 : decode cX4_highestOf 19 = .ok (.iload_n 1, 1) := by decide +kernel
theorem dX4_highestOf_20 : decode cX4_highestOf 20 = .ok (.iload 4, 2) := by decide +kernel
theorem dX4_highestOf_22 : decode cX4_highestOf 22 = .ok (.invokestatic 115, 3) := by decide +kernel
theorem dX4_highestOf_25 : decode cX4_highestOf 25 = .ok (.ifCond .eq 23, 3) := by decide +kernel
theorem dX4_highestOf_28 : decode cX4_highestOf 28 = .ok (.aload_n 0, 1) := by decide +kernel
theorem dX4_highestOf_29 : decode cX4_highestOf 29 = .ok (.iload 4, 2) := by decide +kernel
theorem dX4_highestOf_31 : decode cX4_highestOf 31 = .ok (.invokevirtual 46, 3) := by decide +kernel
theorem dX4_highestOf_34 : decode cX4_highestOf 34 = .ok (.iload_n 3, 1) := by decide +kernel
theorem dX4_highestOf_35 : decode cX4_highestOf 35 = .ok (.if_icmp .le 13, 3) := by decide +kernel
theorem dX4_highestOf_38 : decode cX4_highestOf 38 = .ok (.aload_n 0, 1) := by decide +kernel
theorem dX4_highestOf_39 : decode cX4_highestOf 39 = .ok (.iload 4, 2) := by decide +kernel
theorem dX4_highestOf_41 : decode cX4_highestOf 41 = .ok (.invokevirtual 46, 3) := by decide +kernel
theorem dX4_highestOf_44 : decode cX4_highestOf 44 = .ok (.istore_n 3, 1) := by decide +kernel
theorem dX4_highestOf_45 : decode cX4_highestOf 45 = .ok (.iload 4, 2) := by decide +kernel
theorem dX4_highestOf_47 : decode cX4_highestOf 47 = .ok (.istore_n 2, 1) := by decide +kernel
theorem dX4_highestOf_48 : decode cX4_highestOf 48 = .ok (.iinc 4 1, 3) := by decide +kernel
theorem dX4_highestOf_51 : decode cX4_highestOf 51 = .ok (.goto (-44), 3) := by decide +kernel
theorem dX4_highestOf_54 : decode cX4_highestOf 54 = .ok (.iload_n 2, 1) := by decide +kernel
theorem dX4_highestOf_55 : decode cX4_highestOf 55 = .ok (.ireturn, 1) := by decide +kernel
set_option maxRecDepth 20000 in
theorem ggX4_partOf_J6_bitCount_0f7a4 : GoodIn wsX4_partOf wsJ6_bitCount_0f7a4 := goodIn_r _ [6, 7, 8, 9] (by decide +kernel) (by decide +kernel)
set_option maxRecDepth 20000 in
theorem gX4_partOf_J6_bitCount_0f7a4 : GoodIn wsX4_partOf (va_wsS RX4 119 yJ6_bitCount_0f7a4 wsJ6_bitCount_0f7a4) := goodIn_app (goodIn_of _ (by decide +kernel)) ggX4_partOf_J6_bitCount_0f7a4
set_option maxRecDepth 20000 in
theorem ggX4_partOf_X2_numberOf : GoodIn wsX4_partOf wsX2_numberOf := goodIn_r _ [14, 15, 24, 25, 26, 27, 28, 29, 30, 31, 32, 33, 34, 35, 36, 37] (by decide +kernel) (by decide +kernel)
set_option maxRecDepth 20000 in
theorem gX4_partOf_X2_numberOf : GoodIn wsX4_partOf (wsV RX4 57 RX2 yX2_numberOf wsX2_numberOf) := goodIn_app (goodIn_of _ (by decide +kernel)) ggX4_partOf_X2_numberOf
theorem dX4_partOf_0 : decode cX4_partOf 0 = .ok (.iload_n 1, 1) := by decide +kernel
theorem dX4_partOf_1 : decode cX4_partOf 1 = .ok (.invokestatic 119, 3) := by decide +kernel
theorem dX4_partOf_4 : decode cX4_partOf 4 = .ok (.istore 4, 2) := by decide +kernel
theorem dX4_partOf_6 : decode cX4_partOf 6 = .ok (.iload 4, 2) := by decide +kernel
theorem dX4_partOf_8 : decode cX4_partOf 8 = .ok (.ifCond .ne 7, 3) := by decide +kernel
theorem dX4_partOf_11 : decode cX4_partOf 11 = .ok (.iconst 0, 1) := by decide +kernel
theorem dX4_partOf_12 : decode cX4_partOf 12 = .ok (.goto 23, 3) := by decide +kernel
theorem dX4_partOf_15 : decode cX4_partOf 15 = .ok (.aload_n 0, 1) := by decide +kernel
theorem dX4_partOf_16 : decode cX4_partOf 16 = .ok (.getfield 21, 3) := by decide +kernel
theorem dX4_partOf_19 : decode cX4_partOf 19 = .ok (.getfield 124, 3) := by decide +kernel
theorem dX4_partOf_22 : decode cX4_partOf 22 = .ok (.aload_n 0, 1) := by decide +kernel
theorem dX4_partOf_23 : decode cX4_partOf 23 = .ok (.getfield 21, 3) := by decide +kernel
theorem dX4_partOf_26 : decode cX4_partOf 26 = .ok (.iload_n 2, 1) := by decide +kernel
theorem dX4_partOf_27 : decode cX4_partOf 27 = .ok (.iload_n 3, 1) := by decide +kernel
theorem dX4_partOf_28 : decode cX4_partOf 28 = .ok (.invokevirtual 57, 3) := by decide +kernel
theorem dX4_partOf_31 : decode cX4_partOf 31 = .ok (.iaload, 1) := by decide +kernel
theorem dX4_partOf_32 : decode cX4_partOf 32 = .ok (.iload 4, 2) := by decide +kernel
theorem dX4_partOf_34 : decode cX4_partOf 34 = .ok (.idiv, 1) := by decide +kernel
theorem dX4_partOf_35 : decode cX4_partOf 35 = .ok (.ireturn, 1) := by decide +kernel
set_option maxRecDepth 20000 in
theorem ggX4_catchOf_X4_ownersOf : GoodIn wsX4_catchOf wsX4_ownersOf := goodIn_r _ [5, 6, 7, 8, 9, 10, 11, 12, 13, 14, 15, 16, 17, 18, 4, 19, 20, 21, 22, 23, 24, 25, 26, 27, 28, 29, 30, 31, 32, 33, 34, 35, 36, 37, 38, 39, 52, 53, 54, 55, 56, 57, 58, 59, 60, 61, 62, 63, 64, 65, 66, 67, 68, 69, 70, 71, 72, 73, 74, 75, 76, 77, 78, 79, 80] (by decide +kernel) (by decide +kernel)
set_option maxRecDepth 20000 in
theorem gX4_catchOf_X4_ownersOf : GoodIn wsX4_catchOf (wsV RX4 127 RX4 yX4_ownersOf wsX4_ownersOf) := goodIn_app (goodIn_of _ (by decide +kernel)) ggX4_catchOf_X4_ownersOf
set_option maxRecDepth 20000 in
theorem ggX4_catchOf_X6_holds : GoodIn wsX4_catchOf wsX6_holds := goodIn_r _ [28] (by decide +kernel) (by decide +kernel)
set_option maxRecDepth 20000 in
theorem gX4_catchOf_X6_holds_n115 : GoodIn wsX4_catchOf (wsX6_holds) := ggX4_catchOf_X6_holds
set_option maxRecDepth 20000 in
theorem ggX4_catchOf_X4_partOf : GoodIn wsX4_catchOf wsX4_partOf := goodIn_r _ [43, 7, 44, 45, 46, 47, 48, 49, 50, 51, 10, 11, 12, 13, 14, 15, 52, 53, 54, 55, 56, 57, 58, 59, 67, 68, 69, 70, 71, 72, 73, 74, 75, 76, 77, 78, 79, 80] (by decide +kernel) (by decide +kernel)
set_option maxRecDepth 20000 in
theorem gX4_catchOf_X4_partOf : GoodIn wsX4_catchOf (wsV RX4 130 RX4 yX4_partOf wsX4_partOf) := goodIn_app (goodIn_of _ (by decide +kernel)) ggX4_catchOf_X4_partOf
theorem dX4_catchOf_0 : decode cX4_catchOf 0 = .ok (.aload_n 0, 1) := by decide +kernel
theorem dX4_catchOf_1 : decode cX4_catchOf 1 = .ok (.iload_n 2, 1) := by decide +kernel
theorem dX4_catchOf_2 : decode cX4_catchOf 2 = .ok (.iload_n 3, 1) := by decide +kernel
theorem dX4_catchOf_3 : decode cX4_catchOf 3 = .ok (.invokevirtual 127, 3) := by decide +kernel
theorem dX4_catchOf_6 : decode cX4_catchOf 6 = .ok (.istore 4, 2) := by decide +kernel
theorem dX4_catchOf_8 : decode cX4_catchOf 8 = .ok (.iload 4, 2) := by decide +kernel
theorem dX4_catchOf_10 : decode cX4_catchOf 10 = .ok (.iload_n 1, 1) := by decide +kernel
theorem dX4_catchOf_11 : decode cX4_catchOf 11 = .ok (.invokestatic 115, 3) := by decide +kernel
theorem dX4_catchOf_14 : decode cX4_catchOf 14 = .ok (.ifCond .eq 14, 3) := by decide +kernel
theorem dX4_catchOf_17 : decode cX4_catchOf 17 = .ok (.aload_n 0, 1) := by decide +kernel
theorem dX4_catchOf_18 : decode cX4_catchOf 18 = .ok (.iload 4, 2) := by decide +kernel
theorem dX4_catchOf_20 : decode cX4_catchOf 20 = .ok (.iload_n 2, 1) := by decide +kernel
theorem dX4_catchOf_21 : decode cX4_catchOf 21 = .ok (.iload_n 3, 1) := by decide +kernel
theorem dX4_catchOf_22 : decode cX4_catchOf 22 = .ok (.invokevirtual 130, 3) := by decide +kernel
theorem dX4_catchOf_25 : decode cX4_catchOf 25 = .ok (.goto 4, 3) := by decide +kernel
theorem dX4_catchOf_28 : decode cX4_catchOf 28 = .ok (.iconst (-1), 1) := by decide +kernel
theorem dX4_catchOf_29 : decode cX4_catchOf 29 = .ok (.ireturn, 1) := by decide +kernel
set_option maxRecDepth 20000 in
theorem ggX4_shareOf_X4_catchOf : GoodIn wsX4_shareOf wsX4_catchOf := goodIn_r _ [12, 13, 14, 15, 11, 16, 17, 1, 18, 19, 20, 21, 22, 23, 24, 25, 26, 27, 28, 29, 30, 31, 4, 5, 6, 7, 32, 33, 34, 35, 36, 37, 38, 39, 40, 41, 42, 43, 44, 45, 46, 47, 48, 49, 50, 51, 52, 53, 54, 55, 56, 57, 58, 59, 60, 61, 62, 63, 64, 65, 80, 81, 82, 83, 84, 85, 86, 66, 67, 68, 69, 70, 71, 72, 73, 74, 75, 76, 77, 78, 79] (by decide +kernel) (by decide +kernel)
set_option maxRecDepth 20000 in
theorem gX4_shareOf_X4_catchOf : GoodIn wsX4_shareOf (wsV RX4 133 RX4 yX4_catchOf wsX4_catchOf) := goodIn_app (goodIn_of _ (by decide +kernel)) ggX4_shareOf_X4_catchOf
theorem dX4_shareOf_0 : decode cX4_shareOf 0 = .ok (.iconst 0, 1) := by decide +kernel
theorem dX4_shareOf_1 : decode cX4_shareOf 1 = .ok (.istore_n 2, 1) := by decide +kernel
theorem dX4_shareOf_2 : decode cX4_shareOf 2 = .ok (.iconst 0, 1) := by decide +kernel
theorem dX4_shareOf_3 : decode cX4_shareOf 3 = .ok (.istore_n 3, 1) := by decide +kernel
theorem dX4_shareOf_4 : decode cX4_shareOf 4 = .ok (.iload_n 3, 1) := by decide +kernel
theorem dX4_shareOf_5 : decode cX4_shareOf 5 = .ok (.aload_n 0, 1) := by decide +kernel
theorem dX4_shareOf_6 : decode cX4_shareOf 6 = .ok (.getfield 21, 3) := by decide +kernel
theorem dX4_shareOf_9 : decode cX4_shareOf 9 = .ok (.getfield 86, 3) := by decide +kernel
theorem dX4_shareOf_12 : decode cX4_shareOf 12 = .ok (.if_icmp .ge 45, 3) := by decide +kernel
theorem dX4_shareOf_15 : decode cX4_shareOf 15 = .ok (.iconst 0, 1) := by decide +kernel
theorem dX4_shareOf_16 : decode cX4_shareOf 16 = .ok (.istore 4, 2) := by decide +kernel
theorem dX4_shareOf_18 : decode cX4_shareOf 18 = .ok (.iload 4, 2) := by decide +kernel
theorem dX4_shareOf_20 : decode cX4_shareOf 20 = .ok (.aload_n 0, 1) := by decide +kernel
theorem dX4_shareOf_21 : decode cX4_shareOf 21 = .ok (.getfield 21, 3) := by decide +kernel
theorem dX4_shareOf_24 : decode cX4_shareOf 24 = .ok (.getfield 89, 3) := by decide +kernel
theorem dX4_shareOf_27 : decode cX4_shareOf 27 = .ok (.if_icmp .ge 24, 3) := by decide +kernel
theorem dX4_shareOf_30 : decode cX4_shareOf 30 = .ok (.iload_n 2, 1) := by decide +kernel
theorem dX4_shareOf_31 : decode cX4_shareOf 31 = .ok (.iconst 0, 1) := by decide +kernel
theorem dX4_shareOf_32 : decode cX4_shareOf 32 = .ok (.aload_n 0, 1) := by decide +kernel
theorem dX4_shareOf_33 : decode cX4_shareOf 33 = .ok (.iload_n 1, 1) := by decide +kernel
theorem dX4_shareOf_34 : decode cX4_shareOf 34 = .ok (.iload 4, 2) := by decide +kernel
theorem dX4_shareOf_36 : decode cX4_shareOf 36 = .ok (.iload_n 3, 1) := by decide +kernel
theorem dX4_shareOf_37 : decode cX4_shareOf 37 = .ok (.invokevirtual 133, 3) := by decide +kernel
theorem dX4_shareOf_40 : decode cX4_shareOf 40 = .ok (.invokestatic 69, 3) := by decide +kernel
theorem dX4_shareOf_43 : decode cX4_shareOf 43 = .ok (.iadd, 1) := by decide +kernel
theorem dX4_shareOf_44 : decode cX4_shareOf 44 = .ok (.istore_n 2, 1) := by decide +kernel
theorem dX4_shareOf_45 : decode cX4_shareOf 45 = .ok (.iinc 4 1, 3) := by decide +kernel
theorem dX4_shareOf_48 : decode cX4_shareOf 48 = .ok (.goto (-30), 3) := by decide +kernel
theorem dX4_shareOf_51 : decode cX4_shareOf 51 = .ok (.iinc 3 1, 3) := by decide +kernel
theorem dX4_shareOf_54 : decode cX4_shareOf 54 = .ok (.goto (-50), 3) := by decide +kernel
theorem dX4_shareOf_57 : decode cX4_shareOf 57 = .ok (.iload_n 2, 1) := by decide +kernel
theorem dX4_shareOf_58 : decode cX4_shareOf 58 = .ok (.ireturn, 1) := by decide +kernel
set_option maxRecDepth 20000 in
theorem ggX4_countShares_X4_ownersOf : GoodIn wsX4_countShares wsX4_ownersOf := goodIn_r _ [9, 10, 2, 11, 12, 13, 14, 15, 16, 17, 18, 19, 20, 21, 8, 22, 23, 24, 25, 26, 27, 28, 29, 30, 31, 32, 33, 34, 35, 36, 37, 38, 39, 40, 41, 42, 59, 60, 61, 62, 63, 64, 65, 66, 81, 82, 83, 84, 85, 86, 87, 67, 68, 69, 70, 71, 72, 73, 74, 75, 76, 77, 78, 79, 80] (by decide +kernel) (by decide +kernel)
set_option maxRecDepth 20000 in
theorem gX4_countShares_X4_ownersOf : GoodIn wsX4_countShares (wsV RX4 127 RX4 yX4_ownersOf wsX4_ownersOf) := goodIn_app (goodIn_of _ (by decide +kernel)) ggX4_countShares_X4_ownersOf
set_option maxRecDepth 20000 in
theorem ggX4_countShares_X4_addParts : GoodIn wsX4_countShares wsX4_addParts := goodIn_r _ [46, 2, 23, 1, 47, 48, 49, 8, 50, 51, 52, 53, 54, 55, 56, 57, 58, 13, 14, 15, 16, 17, 18, 29, 30, 31, 59, 60, 61, 62, 63, 64, 65, 66, 67, 68, 69, 70, 71, 72, 73, 74, 75, 76, 77, 78, 79, 80] (by decide +kernel) (by decide +kernel)
set_option maxRecDepth 20000 in
theorem gX4_countShares_X4_addParts : GoodIn wsX4_countShares (wsV RX4 136 RX4 yX4_addParts wsX4_addParts) := goodIn_app (goodIn_of _ (by decide +kernel)) ggX4_countShares_X4_addParts
theorem dX4_countShares_0 : decode cX4_countShares 0 = .ok (.iconst 0, 1) := by decide +kernel
theorem dX4_countShares_1 : decode cX4_countShares 1 = .ok (.istore_n 1, 1) := by decide +kernel
theorem dX4_countShares_2 : decode cX4_countShares 2 = .ok (.iload_n 1, 1) := by decide +kernel
theorem dX4_countShares_3 : decode cX4_countShares 3 = .ok (.bipush 6, 2) := by decide +kernel
theorem dX4_countShares_5 : decode cX4_countShares 5 = .ok (.if_icmp .ge 16, 3) := by decide +kernel
theorem dX4_countShares_8 : decode cX4_countShares 8 = .ok (.aload_n 0, 1) := by decide +kernel
theorem dX4_countShares_9 : decode cX4_countShares 9 = .ok (.getfield 15, 3) := by decide +kernel
theorem dX4_countShares_12 : decode cX4_countShares 12 = .ok (.iload_n 1, 1) := by decide +kernel
theorem dX4_countShares_13 : decode cX4_countShares 13 = .ok (.iconst 0, 1) := by decide +kernel
theorem dX4_countShares_14 : decode cX4_countShares 14 = .ok (.iastore, 1) := by decide +kernel
theorem dX4_countShares_15 : decode cX4_countShares 15 = .ok (.iinc 1 1, 3) := by decide +kernel
theorem dX4_countShares_18 : decode cX4_countShares 18 = .ok (.goto (-16), 3) := by decide +kernel
theorem dX4_countShares_21 : decode cX4_countShares 21 = .ok (.iconst 0, 1) := by decide +kernel
theorem dX4_countShares_22 : decode cX4_countShares 22 = .ok (.istore_n 1, 1) := by decide +kernel
theorem dX4_countShares_23 : decode cX4_countShares 23 = .ok (.iload_n 1, 1) := by decide +kernel
theorem dX4_countShares_24 : decode cX4_countShares 24 = .ok (.aload_n 0, 1) := by decide +kernel
theorem dX4_countShares_25 : decode cX4_countShares 25 = .ok (.getfield 21, 3) := by decide +kernel
theorem dX4_countShares_28 : decode cX4_countShares 28 = .ok (.getfield 86, 3) := by decide +kernel
theorem dX4_countShares_31 : decode cX4_countShares 31 = .ok (.if_icmp .ge 40, 3) := by decide +kernel
theorem dX4_countShares_34 : decode cX4_countShares 34 = .ok (.iconst 0, 1) := by decide +kernel
theorem dX4_countShares_35 : decode cX4_countShares 35 = .ok (.istore_n 2, 1) := by decide +kernel
theorem dX4_countShares_36 : decode cX4_countShares 36 = .ok (.iload_n 2, 1) := by decide +kernel
theorem dX4_countShares_37 : decode cX4_countShares 37 = .ok (.aload_n 0, 1) := by decide +kernel
theorem dX4_countShares_38 : decode cX4_countShares 38 = .ok (.getfield 21, 3) := by decide +kernel
theorem dX4_countShares_41 : decode cX4_countShares 41 = .ok (.getfield 89, 3) := by decide +kernel
theorem dX4_countShares_44 : decode cX4_countShares 44 = .ok (.if_icmp .ge 21, 3) := by decide +kernel
theorem dX4_countShares_47 : decode cX4_countShares 47 = .ok (.aload_n 0, 1) := by decide +kernel
theorem dX4_countShares_48 : decode cX4_countShares 48 = .ok (.aload_n 0, 1) := by decide +kernel
theorem dX4_countShares_49 : decode cX4_countShares 49 = .ok (.iload_n 2, 1) := by decide +kernel
theorem dX4_countShares_50 : decode cX4_countShares 50 = .ok (.iload_n 1, 1) := by decide +kernel
theorem dX4_countShares_51 : decode cX4_countShares 51 = .ok (.invokevirtual 127, 3) := by decide +kernel
theorem dX4_countShares_54 : decode cX4_countShares 54 = .ok (.iload_n 2, 1) := by decide +kernel
theorem dX4_countShares_55 : decode cX4_countShares 55 = .ok (.iload_n 1, 1) := by decide +kernel
theorem dX4_countShares_56 : decode cX4_countShares 56 = .ok (.invokevirtual 136, 3) := by decide +kernel
theorem dX4_countShares_59 : decode cX4_countShares 59 = .ok (.iinc 2 1, 3) := by decide +kernel
theorem dX4_countShares_62 : decode cX4_countShares 62 = .ok (.goto (-26), 3) := by decide +kernel
theorem dX4_countShares_65 : decode cX4_countShares 65 = .ok (.iinc 1 1, 3) := by decide +kernel
theorem dX4_countShares_68 : decode cX4_countShares 68 = .ok (.goto (-45), 3) := by decide +kernel
theorem dX4_countShares_71 : decode cX4_countShares 71 = .ok (.return_, 1) := by decide +kernel
set_option maxRecDepth 20000 in
theorem ggX4_addParts_X4_partOf : GoodIn wsX4_addParts wsX4_partOf := goodIn_r _ [8, 1, 9, 10, 11, 12, 13, 14, 15, 16, 17, 18, 19, 20, 21, 22, 26, 27, 28, 29, 30, 31, 32, 33, 34, 35, 36, 37, 38, 39, 40, 41, 42, 43, 44, 45, 46, 47] (by decide +kernel) (by decide +kernel)
set_option maxRecDepth 20000 in
theorem gX4_addParts_X4_partOf : GoodIn wsX4_addParts (wsV RX4 130 RX4 yX4_partOf wsX4_partOf) := goodIn_app (goodIn_of _ (by decide +kernel)) ggX4_addParts_X4_partOf
set_option maxRecDepth 20000 in
theorem ggX4_addParts_X6_holds : GoodIn wsX4_addParts wsX6_holds := goodIn_r _ [25] (by decide +kernel) (by decide +kernel)
set_option maxRecDepth 20000 in
theorem gX4_addParts_X6_holds_n115 : GoodIn wsX4_addParts (wsX6_holds) := ggX4_addParts_X6_holds
theorem dX4_addParts_0 : decode cX4_addParts 0 = .ok (.aload_n 0, 1) := by decide +kernel
theorem dX4_addParts_1 : decode cX4_addParts 1 = .ok (.iload_n 1, 1) := by decide +kernel
theorem dX4_addParts_2 : decode cX4_addParts 2 = .ok (.iload_n 2, 1) := by decide +kernel
theorem dX4_addParts_3 : decode cX4_addParts 3 = .ok (.iload_n 3, 1) := by decide +kernel
theorem dX4_addParts_4 : decode cX4_addParts 4 = .ok (.invokevirtual 130, 3) := by decide +kernel
theorem dX4_addParts_7 : decode cX4_addParts 7 = .ok (.istore 4, 2) := by decide +kernel
theorem dX4_addParts_9 : decode cX4_addParts 9 = .ok (.iconst 0, 1) := by decide +kernel
theorem dX4_addParts_10 : decode cX4_addParts 10 = .ok (.istore 5, 2) := by decide +kernel
theorem dX4_addParts_12 : decode cX4_addParts 12 = .ok (.iload 5, 2) := by decide +kernel
theorem dX4_addParts_14 : decode cX4_addParts 14 = .ok (.aload_n 0, 1) := by decide +kernel
theorem dX4_addParts_15 : decode cX4_addParts 15 = .ok (.getfield 21, 3) := by decide +kernel
theorem dX4_addParts_18 : decode cX4_addParts 18 = .ok (.getfield 99, 3) := by decide +kernel
theorem dX4_addParts_21 : decode cX4_addParts 21 = .ok (.if_icmp .ge 30, 3) := by decide +kernel
theorem dX4_addParts_24 : decode cX4_addParts 24 = .ok (.iload_n 1, 1) := by decide +kernel
theorem dX4_addParts_25 : decode cX4_addParts 25 = .ok (.iload 5, 2) := by decide +kernel
theorem dX4_addParts_27 : decode cX4_addParts 27 = .ok (.invokestatic 115, 3) := by decide +kernel
theorem dX4_addParts_30 : decode cX4_addParts 30 = .ok (.ifCond .eq 15, 3) := by decide +kernel
theorem dX4_addParts_33 : decode cX4_addParts 33 = .ok (.aload_n 0, 1) := by decide +kernel
theorem dX4_addParts_34 : decode cX4_addParts 34 = .ok (.getfield 15, 3) := by decide +kernel
theorem dX4_addParts_37 : decode cX4_addParts 37 = .ok (.iload 5, 2) := by decide +kernel
theorem dX4_addParts_39 : decode cX4_addParts 39 = .ok (.dup2, 1) := by decide +kernel
theorem dX4_addParts_40 : decode cX4_addParts 40 = .ok (.iaload, 1) := by decide +kernel
theorem dX4_addParts_41 : decode cX4_addParts 41 = .ok (.iload 4, 2) := by decide +kernel
theorem dX4_addParts_43 : decode cX4_addParts 43 = .ok (.iadd, 1) := by decide +kernel
theorem dX4_addParts_44 : decode cX4_addParts 44 = .ok (.iastore, 1) := by decide +kernel
theorem dX4_addParts_45 : decode cX4_addParts 45 = .ok (.iinc 5 1, 3) := by decide +kernel
theorem dX4_addParts_48 : decode cX4_addParts 48 = .ok (.goto (-36), 3) := by decide +kernel
theorem dX4_addParts_51 : decode cX4_addParts 51 = .ok (.return_, 1) := by decide +kernel
set_option maxRecDepth 20000 in
theorem ggX4_findTree_X4_lookAll : GoodIn wsX4_findTree wsX4_lookAll := goodIn_r _ [15, 1, 8, 16, 17, 18, 19, 14, 20, 21, 22, 9, 10, 23, 24, 25, 26, 27, 28, 29, 30, 31, 32, 33, 34, 35, 36, 37, 38, 39, 40, 41, 42, 43, 44, 45, 46, 47, 48, 49, 50, 51, 52, 53, 54, 55, 56, 57, 58, 59, 60, 61, 62, 63, 64, 65, 66, 67, 68, 69, 70, 71, 72, 73, 74, 75, 121, 122, 123, 124, 125, 126, 127, 128, 129, 130, 131, 132, 133, 134, 135, 136, 137, 138, 139, 140, 141, 142, 143, 144, 145, 146, 147, 148, 149] (by decide +kernel) (by decide +kernel)
set_option maxRecDepth 20000 in
theorem gX4_findTree_X4_lookAll : GoodIn wsX4_findTree (wsV RX4 140 RX4 yX4_lookAll wsX4_lookAll) := goodIn_app (goodIn_of _ (by decide +kernel)) ggX4_findTree_X4_lookAll
set_option maxRecDepth 20000 in
theorem ggX4_findTree_X4_tryTree : GoodIn wsX4_findTree wsX4_tryTree := goodIn_r _ [79, 8, 21, 52, 7, 80, 81, 2, 1, 3, 4, 5, 6, 64, 65, 66, 26, 67, 68, 82, 83, 84, 14, 85, 22, 16, 9, 10, 23, 24, 25, 27, 28, 29, 30, 31, 60, 61, 62, 63, 40, 32, 33, 34, 35, 36, 37, 38, 39, 41, 42, 43, 44, 45, 46, 47, 48, 49, 50, 51, 53, 54, 55, 56, 57, 58, 59, 69, 70, 71, 72, 73, 74, 75, 86, 87, 88, 89, 90, 91, 92, 93, 94, 95, 96, 97, 98, 99, 100, 101, 102, 103, 104, 105, 106, 107, 108, 109, 110, 111, 112, 113, 114, 115, 116, 117, 118, 119, 120, 121, 122, 123, 124, 125, 126, 127, 128, 143, 144, 145, 146, 147, 148, 149, 129, 130, 131, 132, 133, 134, 135, 136, 137, 138, 139, 140, 141, 142] (by decide +kernel) (by decide +kernel)
set_option maxRecDepth 20000 in
theorem gX4_findTree_X4_tryTree : GoodIn wsX4_findTree (wsV RX4 152 RX4 yX4_tryTree wsX4_tryTree) := goodIn_app (goodIn_of _ (by decide +kernel)) ggX4_findTree_X4_tryTree
theorem dX4_findTree_0 : decode cX4_findTree 0 = .ok (.aload_n 0, 1) := by decide +kernel
theorem dX4_findTree_1 : decode cX4_findTree 1 = .ok (.invokevirtual 140, 3) := by decide +kernel
theorem dX4_findTree_4 : decode cX4_findTree 4 = .ok (.aload_n 0, 1) := by decide +kernel
theorem dX4_findTree_5 : decode cX4_findTree 5 = .ok (.getfield 9, 3) := by decide +kernel
theorem dX4_findTree_8 : decode cX4_findTree 8 = .ok (.iconst 0, 1) := by decide +kernel
theorem dX4_findTree_9 : decode cX4_findTree 9 = .ok (.aload_n 0, 1) := by decide +kernel
theorem dX4_findTree_10 : decode cX4_findTree 10 = .ok (.getfield 18, 3) := by decide +kernel
theorem dX4_findTree_13 : decode cX4_findTree 13 = .ok (.iconst 0, 1) := by decide +kernel
theorem dX4_findTree_14 : decode cX4_findTree 14 = .ok (.bipush 60, 2) := by decide +kernel
theorem dX4_findTree_16 : decode cX4_findTree 16 = .ok (.invokestatic 143, 3) := by decide +kernel
theorem dX4_findTree_19 : decode cX4_findTree 19 = .ok (.aload_n 0, 1) := by decide +kernel
theorem dX4_findTree_20 : decode cX4_findTree 20 = .ok (.iconst (-1), 1) := by decide +kernel
theorem dX4_findTree_21 : decode cX4_findTree 21 = .ok (.putfield 149, 3) := by decide +kernel
theorem dX4_findTree_24 : decode cX4_findTree 24 = .ok (.iconst 0, 1) := by decide +kernel
theorem dX4_findTree_25 : decode cX4_findTree 25 = .ok (.istore_n 3, 1) := by decide +kernel
theorem dX4_findTree_26 : decode cX4_findTree 26 = .ok (.iload_n 3, 1) := by decide +kernel
theorem dX4_findTree_27 : decode cX4_findTree 27 = .ok (.aload_n 0, 1) := by decide +kernel
theorem dX4_findTree_28 : decode cX4_findTree 28 = .ok (.getfield 21, 3) := by decide +kernel
theorem dX4_findTree_31 : decode cX4_findTree 31 = .ok (.getfield 86, 3) := by decide +kernel
theorem dX4_findTree_34 : decode cX4_findTree 34 = .ok (.if_icmp .ge 39, 3) := by decide +kernel
theorem dX4_findTree_37 : decode cX4_findTree 37 = .ok (.iconst 0, 1) := by decide +kernel
theorem dX4_findTree_38 : decode cX4_findTree 38 = .ok (.istore 4, 2) := by decide +kernel
theorem dX4_findTree_40 : decode cX4_findTree 40 = .ok (.iload 4, 2) := by decide +kernel
theorem dX4_findTree_42 : decode cX4_findTree 42 = .ok (.aload_n 0, 1) := by decide +kernel
theorem dX4_findTree_43 : decode cX4_findTree 43 = .ok (.getfield 21, 3) := by decide +kernel
theorem dX4_findTree_46 : decode cX4_findTree 46 = .ok (.getfield 89, 3) := by decide +kernel
theorem dX4_findTree_49 : decode cX4_findTree 49 = .ok (.if_icmp .ge 18, 3) := by decide +kernel
theorem dX4_findTree_52 : decode cX4_findTree 52 = .ok (.aload_n 0, 1) := by decide +kernel
theorem dX4_findTree_53 : decode cX4_findTree 53 = .ok (.iload_n 1, 1) := by decide +kernel
theorem dX4_findTree_54 : decode cX4_findTree 54 = .ok (.iload 4, 2) := by decide +kernel
theorem dX4_findTree_56 : decode cX4_findTree 56 = .ok (.iload_n 3, 1) := by decide +kernel
theorem dX4_findTree_57 : decode cX4_findTree 57 = .ok (.iload_n 2, 1) := by decide +kernel
theorem dX4_findTree_58 : decode cX4_findTree 58 = .ok (.invokevirtual 152, 3) := by decide +kernel
theorem dX4_findTree_61 : decode cX4_findTree 61 = .ok (.iinc 4 1, 3) := by decide +kernel
theorem dX4_findTree_64 : decode cX4_findTree 64 = .ok (.goto (-24), 3) := by decide +kernel
theorem dX4_findTree_67 : decode cX4_findTree 67 = .ok (.iinc 3 1, 3) := by decide +kernel
theorem dX4_findTree_70 : decode cX4_findTree 70 = .ok (.goto (-44), 3) := by decide +kernel
theorem dX4_findTree_73 : decode cX4_findTree 73 = .ok (.return_, 1) := by decide +kernel
set_option maxRecDepth 20000 in
theorem ggX4_tryTree_X2_numberOf : GoodIn wsX4_tryTree wsX2_numberOf := goodIn_r _ [17, 18, 124, 125, 126, 127, 128, 129, 130, 131, 132, 133, 134, 135, 136, 137] (by decide +kernel) (by decide +kernel)
set_option maxRecDepth 20000 in
theorem gX4_tryTree_X2_numberOf : GoodIn wsX4_tryTree (wsV RX4 57 RX2 yX2_numberOf wsX2_numberOf) := goodIn_app (goodIn_of _ (by decide +kernel)) ggX4_tryTree_X2_numberOf
set_option maxRecDepth 20000 in
theorem ggX4_tryTree_X4_lookOver : GoodIn wsX4_tryTree wsX4_lookOver := goodIn_r _ [23, 1, 2, 24, 25, 26, 27, 28, 29, 30, 16, 31, 32, 33, 34, 35, 36, 37, 38, 22, 39, 40, 41, 42, 43, 44, 45, 46, 47, 48, 49, 50, 51, 52, 53, 54, 55, 56, 57, 58, 59, 3, 60, 61, 62, 63, 64, 65, 66, 13, 14, 15, 17, 18, 67, 68, 69, 70, 71, 72, 73, 8, 109, 110, 111, 112, 113, 114, 115, 116, 117, 118, 119, 120, 121, 122, 123, 124, 125, 126, 127, 128, 129, 130, 131, 132, 133, 134, 135, 136, 137] (by decide +kernel) (by decide +kernel)
set_option maxRecDepth 20000 in
theorem gX4_tryTree_X4_lookOver : GoodIn wsX4_tryTree (wsV RX4 156 RX4 yX4_lookOver wsX4_lookOver) := goodIn_app (goodIn_of _ (by decide +kernel)) ggX4_tryTree_X4_lookOver
set_option maxRecDepth 20000 in
theorem ggX4_tryTree_X4_shareOf : GoodIn wsX4_tryTree wsX4_shareOf := goodIn_r _ [77, 1, 26, 27, 53, 54, 51, 55, 78, 79, 80, 22, 81, 82, 83, 84, 85, 8, 2, 86, 13, 14, 15, 16, 17, 18, 87, 88, 89, 90, 25, 40, 91, 68, 92, 93, 94, 95, 96, 60, 61, 62, 63, 64, 65, 66, 97, 98, 99, 100, 101, 102, 103, 104, 105, 106, 107, 108, 109, 110, 111, 112, 113, 114, 115, 116, 124, 125, 126, 127, 128, 129, 130, 131, 132, 133, 134, 135, 136, 137, 117, 118, 119, 120, 121, 122, 123] (by decide +kernel) (by decide +kernel)
set_option maxRecDepth 20000 in
theorem gX4_tryTree_X4_shareOf : GoodIn wsX4_tryTree (wsV RX4 160 RX4 yX4_shareOf wsX4_shareOf) := goodIn_app (goodIn_of _ (by decide +kernel)) ggX4_tryTree_X4_shareOf
theorem dX4_tryTree_0 : decode cX4_tryTree 0 = .ok (.aload_n 0, 1) := by decide +kernel
theorem dX4_tryTree_1 : decode cX4_tryTree 1 = .ok (.getfield 21, 3) := by decide +kernel
theorem dX4_tryTree_4 : decode cX4_tryTree 4 = .ok (.iload_n 2, 1) := by decide +kernel
theorem dX4_tryTree_5 : decode cX4_tryTree 5 = .ok (.iload_n 3, 1) := by decide +kernel
theorem dX4_tryTree_6 : decode cX4_tryTree 6 = .ok (.invokevirtual 57, 3) := by decide +kernel
theorem dX4_tryTree_9 : decode cX4_tryTree 9 = .ok (.istore 5, 2) := by decide +kernel
theorem dX4_tryTree_11 : decode cX4_tryTree 11 = .ok (.aload_n 0, 1) := by decide +kernel
theorem dX4_tryTree_12 : decode cX4_tryTree 12 = .ok (.getfield 25, 3) := by decide +kernel
theorem dX4_tryTree_15 : decode cX4_tryTree 15 = .ok (.getfield 54, 3) := by decide +kernel
theorem dX4_tryTree_18 : decode cX4_tryTree 18 = .ok (.iload 5, 2) := by decide +kernel
theorem dX4_tryTree_20 : decode cX4_tryTree 20 = .ok (.iaload, 1) := by decide +kernel
theorem dX4_tryTree_21 : decode cX4_tryTree 21 = .ok (.istore 6, 2) := by decide +kernel
theorem dX4_tryTree_23 : decode cX4_tryTree 23 = .ok (.aload_n 0, 1) := by decide +kernel
theorem dX4_tryTree_24 : decode cX4_tryTree 24 = .ok (.getfield 25, 3) := by decide +kernel
theorem dX4_tryTree_27 : decode cX4_tryTree 27 = .ok (.getfield 54, 3) := by decide +kernel
theorem dX4_tryTree_30 : decode cX4_tryTree 30 = .ok (.iload 5, 2) := by decide +kernel
theorem dX4_tryTree_32 : decode cX4_tryTree 32 = .ok (.iload 4, 2) := by decide +kernel
theorem dX4_tryTree_34 : decode cX4_tryTree 34 = .ok (.iastore, 1) := by decide +kernel
theorem dX4_tryTree_35 : decode cX4_tryTree 35 = .ok (.aload_n 0, 1) := by decide +kernel
theorem dX4_tryTree_36 : decode cX4_tryTree 36 = .ok (.iload_n 2, 1) := by decide +kernel
theorem dX4_tryTree_37 : decode cX4_tryTree 37 = .ok (.iload_n 3, 1) := by decide +kernel
theorem dX4_tryTree_38 : decode cX4_tryTree 38 = .ok (.invokevirtual 156, 3) := by decide +kernel
theorem dX4_tryTree_41 : decode cX4_tryTree 41 = .ok (.aload_n 0, 1) := by decide +kernel
theorem dX4_tryTree_42 : decode cX4_tryTree 42 = .ok (.iload_n 1, 1) := by decide +kernel
theorem dX4_tryTree_43 : decode cX4_tryTree 43 = .ok (.invokevirtual 160, 3) := by decide +kernel
theorem dX4_tryTree_46 : decode cX4_tryTree 46 = .ok (.istore 7, 2) := by decide +kernel
theorem dX4_tryTree_48 : decode cX4_tryTree 48 = .ok (.iload 7, 2) := by decide +kernel
theorem dX4_tryTree_50 : decode cX4_tryTree 50 = .ok (.aload_n 0, 1) := by decide +kernel
theorem dX4_tryTree_51 : decode cX4_tryTree 51 = .ok (.getfield 149, 3) := by decide +kernel
theorem dX4_tryTree_54 : decode cX4_tryTree 54 = .ok (.if_icmp .le 19, 3) := by decide +kernel
theorem dX4_tryTree_57 : decode cX4_tryTree 57 = .ok (.aload_n 0, 1) := by decide +kernel
theorem dX4_tryTree_58 : decode cX4_tryTree 58 = .ok (.iload 7, 2) := by decide +kernel
theorem dX4_tryTree_60 : decode cX4_tryTree 60 = .ok (.putfield 149, 3) := by decide +kernel
theorem dX4_tryTree_63 : decode cX4_tryTree 63 = .ok (.aload_n 0, 1) := by decide +kernel
theorem dX4_tryTree_64 : decode cX4_tryTree 64 = .ok (.iload_n 2, 1) := by decide +kernel
theorem dX4_tryTree_65 : decode cX4_tryTree 65 = .ok (.putfield 163, 3) := by decide +kernel
theorem dX4_tryTree_68 : decode cX4_tryTree 68 = .ok (.aload_n 0, 1) := by decide +kernel
theorem dX4_tryTree_69 : decode cX4_tryTree 69 = .ok (.iload_n 3, 1) := by decide +kernel
theorem dX4_tryTree_70 : decode cX4_tryTree 70 = .ok (.putfield 166, 3) := by decide +kernel
theorem dX4_tryTree_73 : decode cX4_tryTree 73 = .ok (.aload_n 0, 1) := by decide +kernel
theorem dX4_tryTree_74 : decode cX4_tryTree 74 = .ok (.getfield 25, 3) := by decide +kernel
theorem dX4_tryTree_77 : decode cX4_tryTree 77 = .ok (.getfield 54, 3) := by decide +kernel
theorem dX4_tryTree_80 : decode cX4_tryTree 80 = .ok (.iload 5, 2) := by decide +kernel
theorem dX4_tryTree_82 : decode cX4_tryTree 82 = .ok (.iload 6, 2) := by decide +kernel
theorem dX4_tryTree_84 : decode cX4_tryTree 84 = .ok (.iastore, 1) := by decide +kernel
theorem dX4_tryTree_85 : decode cX4_tryTree 85 = .ok (.aload_n 0, 1) := by decide +kernel
theorem dX4_tryTree_86 : decode cX4_tryTree 86 = .ok (.getfield 18, 3) := by decide +kernel
theorem dX4_tryTree_89 : decode cX4_tryTree 89 = .ok (.iconst 0, 1) := by decide +kernel
theorem dX4_tryTree_90 : decode cX4_tryTree 90 = .ok (.aload_n 0, 1) := by decide +kernel
theorem dX4_tryTree_91 : decode cX4_tryTree 91 = .ok (.getfield 9, 3) := by decide +kernel
theorem dX4_tryTree_94 : decode cX4_tryTree 94 = .ok (.iconst 0, 1) := by decide +kernel
theorem dX4_tryTree_95 : decode cX4_tryTree 95 = .ok (.bipush 60, 2) := by decide +kernel
theorem dX4_tryTree_97 : decode cX4_tryTree 97 = .ok (.invokestatic 143, 3) := by decide +kernel
theorem dX4_tryTree_100 : decode cX4_tryTree 100 = .ok (.return_, 1) := by decide +kernel
set_option maxRecDepth 20000 in
theorem ggX4_eyeNeeded_X2_farOn : GoodIn wsX4_eyeNeeded wsX2_farOn := goodIn_r _ [14, 15, 16, 17, 18, 57, 58, 59, 60, 61, 62, 63, 64, 65, 66, 67, 68, 69, 70] (by decide +kernel) (by decide +kernel)
set_option maxRecDepth 20000 in
theorem gX4_eyeNeeded_X2_farOn : GoodIn wsX4_eyeNeeded (wsV RX4 83 RX2 yX2_farOn wsX2_farOn) := goodIn_app (goodIn_of _ (by decide +kernel)) ggX4_eyeNeeded_X2_farOn
set_option maxRecDepth 20000 in
theorem ggX4_eyeNeeded_X4_inReach : GoodIn wsX4_eyeNeeded wsX4_inReach := goodIn_r _ [23, 1, 24, 25, 26, 8, 27, 6, 7, 9, 42, 43, 44, 45, 46, 47, 48, 49, 57, 58, 59, 60, 61, 62, 63, 64, 65, 66, 67, 68, 69, 70] (by decide +kernel) (by decide +kernel)
set_option maxRecDepth 20000 in
theorem gX4_eyeNeeded_X4_inReach : GoodIn wsX4_eyeNeeded (wsV RX4 72 RX4 yX4_inReach wsX4_inReach) := goodIn_app (goodIn_of _ (by decide +kernel)) ggX4_eyeNeeded_X4_inReach
set_option maxRecDepth 20000 in
theorem ggX4_eyeNeeded_X4_eyeNeededFor : GoodIn wsX4_eyeNeeded wsX4_eyeNeededFor := goodIn_r _ [31, 2, 32, 1, 6, 7, 8, 9, 33, 34, 35, 22, 36, 24, 37, 38, 39, 13, 40, 41, 42, 43, 44, 45, 46, 47, 48, 49, 50, 51, 52, 53, 54, 55, 56, 57, 58, 59, 60, 61, 62, 63, 64, 65, 66, 67, 68, 69, 70] (by decide +kernel) (by decide +kernel)
set_option maxRecDepth 20000 in
theorem gX4_eyeNeeded_X4_eyeNeededFor : GoodIn wsX4_eyeNeeded (wsV RX4 169 RX4 yX4_eyeNeededFor wsX4_eyeNeededFor) := goodIn_app (goodIn_of _ (by decide +kernel)) ggX4_eyeNeeded_X4_eyeNeededFor
theorem dX4_eyeNeeded_0 : decode cX4_eyeNeeded 0 = .ok (.aload_n 0, 1) := by decide +kernel
theorem dX4_eyeNeeded_1 : decode cX4_eyeNeeded 1 = .ok (.getfield 21, 3) := by decide +kernel
theorem dX4_eyeNeeded_4 : decode cX4_eyeNeeded 4 = .ok (.aload_n 0, 1) := by decide +kernel
theorem dX4_eyeNeeded_5 : decode cX4_eyeNeeded 5 = .ok (.getfield 25, 3) := by decide +kernel
theorem dX4_eyeNeeded_8 : decode cX4_eyeNeeded 8 = .ok (.getfield 80, 3) := by decide +kernel
theorem dX4_eyeNeeded_11 : decode cX4_eyeNeeded 11 = .ok (.invokevirtual 83, 3) := by decide +kernel
theorem dX4_eyeNeeded_14 : decode cX4_eyeNeeded 14 = .ok (.istore_n 2, 1) := by decide +kernel
theorem dX4_eyeNeeded_15 : decode cX4_eyeNeeded 15 = .ok (.iconst 0, 1) := by decide +kernel
theorem dX4_eyeNeeded_16 : decode cX4_eyeNeeded 16 = .ok (.istore_n 3, 1) := by decide +kernel
theorem dX4_eyeNeeded_17 : decode cX4_eyeNeeded 17 = .ok (.iconst 0, 1) := by decide +kernel
theorem dX4_eyeNeeded_18 : decode cX4_eyeNeeded 18 = .ok (.istore 4, 2) := by decide +kernel
theorem dX4_eyeNeeded_20 : decode cX4_eyeNeeded 20 = .ok (.iload 4, 2) := by decide +kernel
theorem dX4_eyeNeeded_22 : decode cX4_eyeNeeded 22 = .ok (.aload_n 0, 1) := by decide +kernel
theorem dX4_eyeNeeded_23 : decode cX4_eyeNeeded 23 = .ok (.getfield 21, 3) := by decide +kernel
theorem dX4_eyeNeeded_26 : decode cX4_eyeNeeded 26 = .ok (.getfield 86, 3) := by decide +kernel
theorem dX4_eyeNeeded_29 : decode cX4_eyeNeeded 29 = .ok (.if_icmp .ge 57, 3) := by decide +kernel
theorem dX4_eyeNeeded_32 : decode cX4_eyeNeeded 32 = .ok (.iconst 0, 1) := by decide +kernel
theorem dX4_eyeNeeded_33 : decode cX4_eyeNeeded 33 = .ok (.istore 5, 2) := by decide +kernel
theorem dX4_eyeNeeded_35 : decode cX4_eyeNeeded 35 = .ok (.iload 5, 2) := by decide +kernel
theorem dX4_eyeNeeded_37 : decode cX4_eyeNeeded 37 = .ok (.aload_n 0, 1) := by decide +kernel
theorem dX4_eyeNeeded_38 : decode cX4_eyeNeeded 38 = .ok (.getfield 21, 3) := by decide +kernel
theorem dX4_eyeNeeded_41 : decode cX4_eyeNeeded 41 = .ok (.getfield 89, 3) := by decide +kernel
theorem dX4_eyeNeeded_44 : decode cX4_eyeNeeded 44 = .ok (.if_icmp .ge 36, 3) := by decide +kernel
theorem dX4_eyeNeeded_47 : decode cX4_eyeNeeded 47 = .ok (.aload_n 0, 1) := by decide +kernel
theorem dX4_eyeNeeded_48 : decode cX4_eyeNeeded 48 = .ok (.iload_n 1, 1) := by decide +kernel
theorem dX4_eyeNeeded_49 : decode cX4_eyeNeeded 49 = .ok (.iload 5, 2) := by decide +kernel
theorem dX4_eyeNeeded_51 : decode cX4_eyeNeeded 51 = .ok (.iload 4, 2) := by decide +kernel
theorem dX4_eyeNeeded_53 : decode cX4_eyeNeeded 53 = .ok (.iload_n 2, 1) := by decide +kernel
theorem dX4_eyeNeeded_54 : decode cX4_eyeNeeded 54 = .ok (.invokevirtual 72, 3) := by decide +kernel
theorem dX4_eyeNeeded_57 : decode cX4_eyeNeeded 57 = .ok (.ifCond .eq 17, 3) := by decide +kernel
theorem dX4_eyeNeeded_60 : decode cX4_eyeNeeded 60 = .ok (.iload_n 3, 1) := by decide +kernel
theorem dX4_eyeNeeded_61 : decode cX4_eyeNeeded 61 = .ok (.aload_n 0, 1) := by decide +kernel
theorem dX4_eyeNeeded_62 : decode cX4_eyeNeeded 62 = .ok (.iload_n 1, 1) := by decide +kernel
theorem dX4_eyeNeeded_63 : decode cX4_eyeNeeded 63 = .ok (.iload 5, 2) := by decide +kernel
theorem dX4_eyeNeeded_65 : decode cX4_eyeNeeded 65 = .ok (.iload 4, 2) := by decide +kernel
theorem dX4_eyeNeeded_67 : decode cX4_eyeNeeded 67 = .ok (.invokevirtual 169, 3) := by decide +kernel
theorem dX4_eyeNeeded_70 : decode cX4_eyeNeeded 70 = .ok (.invokestatic 69, 3) := by decide +kernel
theorem dX4_eyeNeeded_73 : decode cX4_eyeNeeded 73 = .ok (.istore_n 3, 1) := by decide +kernel
theorem dX4_eyeNeeded_74 : decode cX4_eyeNeeded 74 = .ok (.iinc 5 1, 3) := by decide +kernel
theorem dX4_eyeNeeded_77 : decode cX4_eyeNeeded 77 = .ok (.goto (-42), 3) := by decide +kernel
theorem dX4_eyeNeeded_80 : decode cX4_eyeNeeded 80 = .ok (.iinc 4 1, 3) := by decide +kernel
theorem dX4_eyeNeeded_83 : decode cX4_eyeNeeded 83 = .ok (.goto (-63), 3) := by decide +kernel
theorem dX4_eyeNeeded_86 : decode cX4_eyeNeeded 86 = .ok (.iload_n 3, 1) := by decide +kernel
theorem dX4_eyeNeeded_87 : decode cX4_eyeNeeded 87 = .ok (.ireturn, 1) := by decide +kernel
set_option maxRecDepth 20000 in
theorem ggX4_eyeNeededFor_X4_lineX : GoodIn wsX4_eyeNeededFor wsX4_lineX := goodIn_r _ [12, 3, 13, 20, 21, 22, 23, 24, 25, 26, 27, 35, 36, 37, 38, 39, 40, 41, 42, 43, 44, 45, 46, 47, 48] (by decide +kernel) (by decide +kernel)
set_option maxRecDepth 20000 in
theorem gX4_eyeNeededFor_X4_lineX : GoodIn wsX4_eyeNeededFor (wsV RX4 50 RX4 yX4_lineX wsX4_lineX) := goodIn_app (goodIn_of _ (by decide +kernel)) ggX4_eyeNeededFor_X4_lineX
set_option maxRecDepth 20000 in
theorem ggX4_eyeNeededFor_X2_numberOf : GoodIn wsX4_eyeNeededFor wsX2_numberOf := goodIn_r _ [18, 19, 35, 36, 37, 38, 39, 40, 41, 42, 43, 44, 45, 46, 47, 48] (by decide +kernel) (by decide +kernel)
set_option maxRecDepth 20000 in
theorem gX4_eyeNeededFor_X2_numberOf : GoodIn wsX4_eyeNeededFor (wsV RX4 57 RX2 yX2_numberOf wsX2_numberOf) := goodIn_app (goodIn_of _ (by decide +kernel)) ggX4_eyeNeededFor_X2_numberOf
theorem dX4_eyeNeededFor_0 : decode cX4_eyeNeededFor 0 = .ok (.iconst 0, 1) := by decide +kernel
theorem dX4_eyeNeededFor_1 : decode cX4_eyeNeededFor 1 = .ok (.istore 4, 2) := by decide +kernel
theorem dX4_eyeNeededFor_3 : decode cX4_eyeNeededFor 3 = .ok (.iconst 0, 1) := by decide +kernel
theorem dX4_eyeNeededFor_4 : decode cX4_eyeNeededFor 4 = .ok (.istore 5, 2) := by decide +kernel
theorem dX4_eyeNeededFor_6 : decode cX4_eyeNeededFor 6 = .ok (.iload 5, 2) := by decide +kernel
theorem dX4_eyeNeededFor_8 : decode cX4_eyeNeededFor 8 = .ok (.iload_n 3, 1) := by decide +kernel
theorem dX4_eyeNeededFor_9 : decode cX4_eyeNeededFor 9 = .ok (.if_icmp .ge 64, 3) := by decide +kernel
theorem dX4_eyeNeededFor_12 : decode cX4_eyeNeededFor 12 = .ok (.aload_n 0, 1) := by decide +kernel
theorem dX4_eyeNeededFor_13 : decode cX4_eyeNeededFor 13 = .ok (.getfield 25, 3) := by decide +kernel
theorem dX4_eyeNeededFor_16 : decode cX4_eyeNeededFor 16 = .ok (.getfield 54, 3) := by decide +kernel
theorem dX4_eyeNeededFor_19 : decode cX4_eyeNeededFor 19 = .ok (.aload_n 0, 1) := by decide +kernel
theorem dX4_eyeNeededFor_20 : decode cX4_eyeNeededFor 20 = .ok (.getfield 21, 3) := by decide +kernel
theorem dX4_eyeNeededFor_23 : decode cX4_eyeNeededFor 23 = .ok (.aload_n 0, 1) := by decide +kernel
theorem dX4_eyeNeededFor_24 : decode cX4_eyeNeededFor 24 = .ok (.iload_n 1, 1) := by decide +kernel
theorem dX4_eyeNeededFor_25 : decode cX4_eyeNeededFor 25 = .ok (.iload_n 2, 1) := by decide +kernel
theorem dX4_eyeNeededFor_26 : decode cX4_eyeNeededFor 26 = .ok (.iload_n 3, 1) := by decide +kernel
theorem dX4_eyeNeededFor_27 : decode cX4_eyeNeededFor 27 = .ok (.iload 5, 2) := by decide +kernel
theorem dX4_eyeNeededFor_29 : decode cX4_eyeNeededFor 29 = .ok (.invokevirtual 50, 3) := by decide +kernel
theorem dX4_eyeNeededFor_32 : decode cX4_eyeNeededFor 32 = .ok (.iload 5, 2) := by decide +kernel
theorem dX4_eyeNeededFor_34 : decode cX4_eyeNeededFor 34 = .ok (.invokevirtual 57, 3) := by decide +kernel
theorem dX4_eyeNeededFor_37 : decode cX4_eyeNeededFor 37 = .ok (.iaload, 1) := by decide +kernel
theorem dX4_eyeNeededFor_38 : decode cX4_eyeNeededFor 38 = .ok (.istore 6, 2) := by decide +kernel
theorem dX4_eyeNeededFor_40 : decode cX4_eyeNeededFor 40 = .ok (.iload_n 3, 1) := by decide +kernel
theorem dX4_eyeNeededFor_41 : decode cX4_eyeNeededFor 41 = .ok (.iload 5, 2) := by decide +kernel
theorem dX4_eyeNeededFor_43 : decode cX4_eyeNeededFor 43 = .ok (.isub, 1) := by decide +kernel
theorem dX4_eyeNeededFor_44 : decode cX4_eyeNeededFor 44 = .ok (.istore 7, 2) := by decide +kernel
theorem dX4_eyeNeededFor_46 : decode cX4_eyeNeededFor 46 = .ok (.iload 4, 2) := by decide +kernel
theorem dX4_eyeNeededFor_48 : decode cX4_eyeNeededFor 48 = .ok (.iload 6, 2) := by decide +kernel
theorem dX4_eyeNeededFor_50 : decode cX4_eyeNeededFor 50 = .ok (.iload_n 3, 1) := by decide +kernel
theorem dX4_eyeNeededFor_51 : decode cX4_eyeNeededFor 51 = .ok (.iconst 1, 1) := by decide +kernel
theorem dX4_eyeNeededFor_52 : decode cX4_eyeNeededFor 52 = .ok (.iadd, 1) := by decide +kernel
theorem dX4_eyeNeededFor_53 : decode cX4_eyeNeededFor 53 = .ok (.imul, 1) := by decide +kernel
theorem dX4_eyeNeededFor_54 : decode cX4_eyeNeededFor 54 = .ok (.iload 7, 2) := by decide +kernel
theorem dX4_eyeNeededFor_56 : decode cX4_eyeNeededFor 56 = .ok (.iadd, 1) := by decide +kernel
theorem dX4_eyeNeededFor_57 : decode cX4_eyeNeededFor 57 = .ok (.iconst 1, 1) := by decide +kernel
theorem dX4_eyeNeededFor_58 : decode cX4_eyeNeededFor 58 = .ok (.isub, 1) := by decide +kernel
theorem dX4_eyeNeededFor_59 : decode cX4_eyeNeededFor 59 = .ok (.iload 7, 2) := by decide +kernel
theorem dX4_eyeNeededFor_61 : decode cX4_eyeNeededFor 61 = .ok (.idiv, 1) := by decide +kernel
theorem dX4_eyeNeededFor_62 : decode cX4_eyeNeededFor 62 = .ok (.invokestatic 69, 3) := by decide +kernel
theorem dX4_eyeNeededFor_65 : decode cX4_eyeNeededFor 65 = .ok (.istore 4, 2) := by decide +kernel
theorem dX4_eyeNeededFor_67 : decode cX4_eyeNeededFor 67 = .ok (.iinc 5 1, 3) := by decide +kernel
theorem dX4_eyeNeededFor_70 : decode cX4_eyeNeededFor 70 = .ok (.goto (-64), 3) := by decide +kernel
theorem dX4_eyeNeededFor_73 : decode cX4_eyeNeededFor 73 = .ok (.iload 4, 2) := by decide +kernel
theorem dX4_eyeNeededFor_75 : decode cX4_eyeNeededFor 75 = .ok (.ireturn, 1) := by decide +kernel
theorem dX5_init_0 : decode cX5_init 0 = .ok (.aload_n 0, 1) := by decide +kernel
theorem dX5_init_1 : decode cX5_init 1 = .ok (.invokespecial 3, 3) := by decide +kernel
theorem dX5_init_4 : decode cX5_init 4 = .ok (.aload_n 0, 1) := by decide +kernel
theorem dX5_init_5 : decode cX5_init 5 = .ok (.bipush 6, 2) := by decide +kernel
theorem dX5_init_7 : decode cX5_init 7 = .ok (.newarray .int, 2) := by decide +kernel
theorem dX5_init_9 : decode cX5_init 9 = .ok (.putfield 9, 3) := by decide +kernel
theorem dX5_init_12 : decode cX5_init 12 = .ok (.aload_n 0, 1) := by decide +kernel
theorem dX5_init_13 : decode cX5_init 13 = .ok (.bipush 6, 2) := by decide +kernel
theorem dX5_init_15 : decode cX5_init 15 = .ok (.newarray .int, 2) := by decide +kernel
theorem dX5_init_17 : decode cX5_init 17 = .ok (.putfield 15, 3) := by decide +kernel
theorem dX5_init_20 : decode cX5_init 20 = .ok (.aload_n 0, 1) := by decide +kernel
theorem dX5_init_21 : decode cX5_init 21 = .ok (.bipush 60, 2) := by decide +kernel
theorem dX5_init_23 : decode cX5_init 23 = .ok (.newarray .int, 2) := by decide +kernel
theorem dX5_init_25 : decode cX5_init 25 = .ok (.putfield 18, 3) := by decide +kernel
theorem dX5_init_28 : decode cX5_init 28 = .ok (.return_, 1) := by decide +kernel
theorem dX5_restart_0 : decode cX5_restart 0 = .ok (.aload_n 0, 1) := by decide +kernel
theorem dX5_restart_1 : decode cX5_restart 1 = .ok (.iconst 0, 1) := by decide +kernel
theorem dX5_restart_2 : decode cX5_restart 2 = .ok (.putfield 21, 3) := by decide +kernel
theorem dX5_restart_5 : decode cX5_restart 5 = .ok (.iconst 0, 1) := by decide +kernel
theorem dX5_restart_6 : decode cX5_restart 6 = .ok (.istore_n 2, 1) := by decide +kernel
theorem dX5_restart_7 : decode cX5_restart 7 = .ok (.iload_n 2, 1) := by decide +kernel
theorem dX5_restart_8 : decode cX5_restart 8 = .ok (.bipush 6, 2) := by decide +kernel
theorem dX5_restart_10 : decode cX5_restart 10 = .ok (.if_icmp .ge 16, 3) := by decide +kernel
theorem dX5_restart_13 : decode cX5_restart 13 = .ok (.aload_n 0, 1) := by decide +kernel
theorem dX5_restart_14 : decode cX5_restart 14 = .ok (.getfield 15, 3) := by decide +kernel
theorem dX5_restart_17 : decode cX5_restart 17 = .ok (.iload_n 2, 1) := by decide +kernel
theorem dX5_restart_18 : decode cX5_restart 18 = .ok (.iconst 0, 1) := by decide +kernel
theorem dX5_restart_19 : decode cX5_restart 19 = .ok (.iastore, 1) := by decide +kernel
theorem dX5_restart_20 : decode cX5_restart 20 = .ok (.iinc 2 1, 3) := by decide +kernel
theorem dX5_restart_23 : decode cX5_restart 23 = .ok (.goto (-16), 3) := by decide +kernel
theorem dX5_restart_26 : decode cX5_restart 26 = .ok (.aload_n 1, 1) := by decide +kernel
theorem dX5_restart_27 : decode cX5_restart 27 = .ok (.getfield 25, 3) := by decide +kernel
theorem dX5_restart_30 : decode cX5_restart 30 = .ok (.iconst 0, 1) := by decide +kernel
theorem dX5_restart_31 : decode cX5_restart 31 = .ok (.aload_n 0, 1) := by decide +kernel
theorem dX5_restart_32 : decode cX5_restart 32 = .ok (.getfield 9, 3) := by decide +kernel
theorem dX5_restart_35 : decode cX5_restart 35 = .ok (.iconst 0, 1) := by decide +kernel
theorem dX5_restart_36 : decode cX5_restart 36 = .ok (.bipush 6, 2) := by decide +kernel
theorem dX5_restart_38 : decode cX5_restart 38 = .ok (.invokestatic 28, 3) := by decide +kernel
theorem dX5_restart_41 : decode cX5_restart 41 = .ok (.aload_n 1, 1) := by decide +kernel
theorem dX5_restart_42 : decode cX5_restart 42 = .ok (.getfield 34, 3) := by decide +kernel
theorem dX5_restart_45 : decode cX5_restart 45 = .ok (.iconst 0, 1) := by decide +kernel
theorem dX5_restart_46 : decode cX5_restart 46 = .ok (.aload_n 0, 1) := by decide +kernel
theorem dX5_restart_47 : decode cX5_restart 47 = .ok (.getfield 18, 3) := by decide +kernel
theorem dX5_restart_50 : decode cX5_restart 50 = .ok (.iconst 0, 1) := by decide +kernel
theorem dX5_restart_51 : decode cX5_restart 51 = .ok (.bipush 60, 2) := by decide +kernel
theorem dX5_restart_53 : decode cX5_restart 53 = .ok (.invokestatic 28, 3) := by decide +kernel
theorem dX5_restart_56 : decode cX5_restart 56 = .ok (.return_, 1) := by decide +kernel
theorem dX5_copyFrom_0 : decode cX5_copyFrom 0 = .ok (.aload_n 0, 1) := by decide +kernel
theorem dX5_copyFrom_1 : decode cX5_copyFrom 1 = .ok (.aload_n 1, 1) := by decide +kernel
theorem dX5_copyFrom_2 : decode cX5_copyFrom 2 = .ok (.getfield 21, 3) := by decide +kernel
theorem dX5_copyFrom_5 : decode cX5_copyFrom 5 = .ok (.putfield 21, 3) := by decide +kernel
theorem dX5_copyFrom_8 : decode cX5_copyFrom 8 = .ok (.aload_n 0, 1) := by decide +kernel
theorem dX5_copyFrom_9 : decode cX5_copyFrom 9 = .ok (.aload_n 1, 1) := by decide +kernel
theorem dX5_copyFrom_10 : decode cX5_copyFrom 10 = .ok (.getfield 35, 3) := by decide +kernel
theorem dX5_copyFrom_13 : decode cX5_copyFrom 13 = .ok (.putfield 35, 3) := by decide +kernel
theorem dX5_copyFrom_16 : decode cX5_copyFrom 16 = .ok (.aload_n 0, 1) := by decide +kernel
theorem dX5_copyFrom_17 : decode cX5_copyFrom 17 = .ok (.aload_n 1, 1) := by decide +kernel
theorem dX5_copyFrom_18 : decode cX5_copyFrom 18 = .ok (.getfield 38, 3) := by decide +kernel
theorem dX5_copyFrom_21 : decode cX5_copyFrom 21 = .ok (.putfield 38, 3) := by decide +kernel
theorem dX5_copyFrom_24 : decode cX5_copyFrom 24 = .ok (.aload_n 1, 1) := by decide +kernel
theorem dX5_copyFrom_25 : decode cX5_copyFrom 25 = .ok (.getfield 9, 3) := by decide +kernel
theorem dX5_copyFrom_28 : decode cX5_copyFrom 28 = .ok (.iconst 0, 1) := by decide +kernel
theorem dX5_copyFrom_29 : decode cX5_copyFrom 29 = .ok (.aload_n 0, 1) := by decide +kernel
theorem dX5_copyFrom_30 : decode cX5_copyFrom 30 = .ok (.getfield 9, 3) := by decide +kernel
theorem dX5_copyFrom_33 : decode cX5_copyFrom 33 = .ok (.iconst 0, 1) := by decide +kernel
theorem dX5_copyFrom_34 : decode cX5_copyFrom 34 = .ok (.bipush 6, 2) := by decide +kernel
theorem dX5_copyFrom_36 : decode cX5_copyFrom 36 = .ok (.invokestatic 28, 3) := by decide +kernel
theorem dX5_copyFrom_39 : decode cX5_copyFrom 39 = .ok (.aload_n 1, 1) := by decide +kernel
theorem dX5_copyFrom_40 : decode cX5_copyFrom 40 = .ok (.getfield 15, 3) := by decide +kernel
theorem dX5_copyFrom_43 : decode cX5_copyFrom 43 = .ok (.iconst 0, 1) := by decide +kernel
theorem dX5_copyFrom_44 : decode cX5_copyFrom 44 = .ok (.aload_n 0, 1) := by decide +kernel
theorem dX5_copyFrom_45 : decode cX5_copyFrom 45 = .ok (.getfield 15, 3) := by decide +kernel
theorem dX5_copyFrom_48 : decode cX5_copyFrom 48 = .ok (.iconst 0, 1) := by decide +kernel
theorem dX5_copyFrom_49 : decode cX5_copyFrom 49 = .ok (.bipush 6, 2) := by decide +kernel
theorem dX5_copyFrom_51 : decode cX5_copyFrom 51 = .ok (.invokestatic 28, 3) := by decide +kernel
theorem dX5_copyFrom_54 : decode cX5_copyFrom 54 = .ok (.aload_n 1, 1) := by decide +kernel
theorem dX5_copyFrom_55 : decode cX5_copyFrom 55 = .ok (.getfield 18, 3) := by decide +kernel
theorem dX5_copyFrom_58 : decode cX5_copyFrom 58 = .ok (.iconst 0, 1) := by decide +kernel
theorem dX5_copyFrom_59 : decode cX5_copyFrom 59 = .ok (.aload_n 0, 1) := by decide +kernel
theorem dX5_copyFrom_60 : decode cX5_copyFrom 60 = .ok (.getfield 18, 3) := by decide +kernel
theorem dX5_copyFrom_63 : decode cX5_copyFrom 63 = .ok (.iconst 0, 1) := by decide +kernel
theorem dX5_copyFrom_64 : decode cX5_copyFrom 64 = .ok (.bipush 60, 2) := by decide +kernel
theorem dX5_copyFrom_66 : decode cX5_copyFrom 66 = .ok (.invokestatic 28, 3) := by decide +kernel
theorem dX5_copyFrom_69 : decode cX5_copyFrom 69 = .ok (.return_, 1) := by decide +kernel
theorem dX5_addStorey_0 : decode cX5_addStorey 0 = .ok (.aload_n 0, 1) := by decide +kernel
theorem dX5_addStorey_1 : decode cX5_addStorey 1 = .ok (.getfield 9, 3) := by decide +kernel
theorem dX5_addStorey_4 : decode cX5_addStorey 4 = .ok (.iload_n 1, 1) := by decide +kernel
theorem dX5_addStorey_5 : decode cX5_addStorey 5 = .ok (.dup2, 1) := by decide +kernel
theorem dX5_addStorey_6 : decode cX5_addStorey 6 = .ok (.iaload, 1) := by decide +kernel
theorem dX5_addStorey_7 : decode cX5_addStorey 7 = .ok (.iconst 1, 1) := by decide +kernel
theorem dX5_addStorey_8 : decode cX5_addStorey 8 = .ok (.iadd, 1) := by decide +kernel
theorem dX5_addStorey_9 : decode cX5_addStorey 9 = .ok (.iastore, 1) := by decide +kernel
theorem dX5_addStorey_10 : decode cX5_addStorey 10 = .ok (.aload_n 0, 1) := by decide +kernel
theorem dX5_addStorey_11 : decode cX5_addStorey 11 = .ok (.getfield 15, 3) := by decide +kernel
theorem dX5_addStorey_14 : decode cX5_addStorey 14 = .ok (.iload_n 1, 1) := by decide +kernel
theorem dX5_addStorey_15 : decode cX5_addStorey 15 = .ok (.dup2, 1) := by decide +kernel
theorem dX5_addStorey_16 : decode cX5_addStorey 16 = .ok (.iaload, 1) := by decide +kernel
theorem dX5_addStorey_17 : decode cX5_addStorey 17 = .ok (.iload_n 2, 1) := by decide +kernel
theorem dX5_addStorey_18 : decode cX5_addStorey 18 = .ok (.isub, 1) := by decide +kernel
theorem dX5_addStorey_19 : decode cX5_addStorey 19 = .ok (.iastore, 1) := by decide +kernel
theorem dX5_addStorey_20 : decode cX5_addStorey 20 = .ok (.return_, 1) := by decide +kernel
theorem dX5_earn_0 : decode cX5_earn 0 = .ok (.iconst 0, 1) := by decide +kernel
theorem dX5_earn_1 : decode cX5_earn 1 = .ok (.istore_n 2, 1) := by decide +kernel
theorem dX5_earn_2 : decode cX5_earn 2 = .ok (.iload_n 2, 1) := by decide +kernel
theorem dX5_earn_3 : decode cX5_earn 3 = .ok (.bipush 6, 2) := by decide +kernel
theorem dX5_earn_5 : decode cX5_earn 5 = .ok (.if_icmp .ge 21, 3) := by decide +kernel
theorem dX5_earn_8 : decode cX5_earn 8 = .ok (.aload_n 0, 1) := by decide +kernel
theorem dX5_earn_9 : decode cX5_earn 9 = .ok (.getfield 15, 3) := by decide +kernel
theorem dX5_earn_12 : decode cX5_earn 12 = .ok (.iload_n 2, 1) := by decide +kernel
theorem dX5_earn_13 : decode cX5_earn 13 = .ok (.dup2, 1) := by decide +kernel
theorem dX5_earn_14 : decode cX5_earn 14 = .ok (.iaload, 1) := by decide +kernel
theorem dX5_earn_15 : decode cX5_earn 15 = .ok (.aload_n 1, 1) := by decide +kernel
theorem dX5_earn_16 : decode cX5_earn 16 = .ok (.iload_n 2, 1) := by decide +kernel
theorem dX5_earn_17 : decode cX5_earn 17 = .ok (.iaload, 1) := by decide +kernel
theorem dX5_earn_18 : decode cX5_earn 18 = .ok (.iadd, 1) := by decide +kernel
theorem dX5_earn_19 : decode cX5_earn 19 = .ok (.iastore, 1) := by decide +kernel
theorem dX5_earn_20 : decode cX5_earn 20 = .ok (.iinc 2 1, 3) := by decide +kernel
theorem dX5_earn_23 : decode cX5_earn 23 = .ok (.goto (-21), 3) := by decide +kernel
theorem dX5_earn_26 : decode cX5_earn 26 = .ok (.return_, 1) := by decide +kernel
theorem dX5_draw_0 : decode cX5_draw 0 = .ok (.aload_n 0, 1) := by decide +kernel
theorem dX5_draw_1 : decode cX5_draw 1 = .ok (.aload_n 0, 1) := by decide +kernel
theorem dX5_draw_2 : decode cX5_draw 2 = .ok (.getfield 38, 3) := by decide +kernel
theorem dX5_draw_5 : decode cX5_draw 5 = .ok (.i2l, 1) := by decide +kernel
theorem dX5_draw_6 : decode cX5_draw 6 = .ok (.ldc2_w 41, 3) := by decide +kernel
theorem dX5_draw_9 : decode cX5_draw 9 = .ok (.lmul, 1) := by decide +kernel
theorem dX5_draw_10 : decode cX5_draw 10 = .ok (.ldc2_w 43, 3) := by decide +kernel
theorem dX5_draw_13 : decode cX5_draw 13 = .ok (.ladd, 1) := by decide +kernel
theorem dX5_draw_14 : decode cX5_draw 14 = .ok (.ldc2_w 45, 3) := by decide +kernel
theorem dX5_draw_17 : decode cX5_draw 17 = .ok (.land, 1) := by decide +kernel
theorem dX5_draw_18 : decode cX5_draw 18 = .ok (.l2i, 1) := by decide +kernel
theorem dX5_draw_19 : decode cX5_draw 19 = .ok (.putfield 38, 3) := by decide +kernel
theorem dX5_draw_22 : decode cX5_draw 22 = .ok (.iload_n 1, 1) := by decide +kernel
theorem dX5_draw_23 : decode cX5_draw 23 = .ok (.iconst 1, 1) := by decide +kernel
theorem dX5_draw_24 : decode cX5_draw 24 = .ok (.if_icmp .ge 7, 3) := by decide +kernel
theorem dX5_draw_27 : decode cX5_draw 27 = .ok (.iconst 0, 1) := by decide +kernel
theorem dX5_draw_28 : decode cX5_draw 28 = .ok (.goto 12, 3) := by decide +kernel
theorem dX5_draw_31 : decode cX5_draw 31 = .ok (.aload_n 0, 1) := by decide +kernel
theorem dX5_draw_32 : decode cX5_draw 32 = .ok (.getfield 38, 3) := by decide +kernel
theorem dX5_draw_35 : decode cX5_draw 35 = .ok (.ldc 47, 2) := by decide +kernel
theorem dX5_draw_37 : decode cX5_draw 37 = .ok (.idiv, 1) := by decide +kernel
theorem dX5_draw_38 : decode cX5_draw 38 = .ok (.iload_n 1, 1) := by decide +kernel
theorem dX5_draw_39 : decode cX5_draw 39 = .ok (.irem, 1) := by decide +kernel
theorem dX5_draw_40 : decode cX5_draw 40 = .ok (.ireturn, 1) := by decide +kernel
set_option maxRecDepth 20000 in
theorem ggX6_init_X2_init : GoodIn wsX6_init wsX2_init := goodIn_r _ [33, 34, 2, 3, 29, 35, 36, 37, 38, 39, 40, 41, 42, 43, 44, 45, 6, 46, 47, 48, 49, 50, 51, 52, 91, 92, 93, 94, 95, 96, 97, 98, 99, 100, 101, 102, 103, 104] (by decide +kernel) (by decide +kernel)
set_option maxRecDepth 20000 in
theorem gX6_init_X2_init : GoodIn wsX6_init (wsX2_init) := ggX6_init_X2_init
set_option maxRecDepth 20000 in
theorem ggX6_init_X3_init : GoodIn wsX6_init wsX3_init := goodIn_r _ [54, 55, 2, 3, 56, 5, 6, 57, 58, 59, 60, 29, 61, 62, 63, 64, 65, 32, 33, 34, 35, 36, 37, 38, 39, 40, 41, 42, 43, 44, 45, 46, 47, 48, 49, 50, 51, 52, 91, 92, 93, 94, 95, 96, 97, 98, 99, 100, 101, 102, 103, 104, 113, 114, 115, 116, 117, 118, 119, 120, 121] (by decide +kernel) (by decide +kernel)
set_option maxRecDepth 20000 in
theorem gX6_init_X3_init_n18 : GoodIn wsX6_init (wsX3_init) := ggX6_init_X3_init
set_option maxRecDepth 20000 in
theorem ggX6_init_X5_init : GoodIn wsX6_init wsX5_init := goodIn_r _ [67, 68, 2, 3, 29, 69, 70, 71, 122, 123, 124, 125, 126, 127, 128] (by decide +kernel) (by decide +kernel)
set_option maxRecDepth 20000 in
theorem gX6_init_X5_init_n25 : GoodIn wsX6_init (wsX5_init) := ggX6_init_X5_init
set_option maxRecDepth 20000 in
theorem ggX6_init_X4_init : GoodIn wsX6_init wsX4_init := goodIn_r _ [74, 75, 2, 3, 29, 76, 77, 78, 79, 80, 129, 130, 131, 132, 133, 134, 135, 136] (by decide +kernel) (by decide +kernel)
set_option maxRecDepth 20000 in
theorem gX6_init_X4_init : GoodIn wsX6_init (wsX4_init) := ggX6_init_X4_init
set_option maxRecDepth 20000 in
theorem ggX6_init_X1_init : GoodIn wsX6_init wsX1_init := goodIn_r _ [82, 83, 2, 3, 29, 84, 85, 86, 137, 138, 139, 140] (by decide +kernel) (by decide +kernel)
set_option maxRecDepth 20000 in
theorem gX6_init_X1_init_n45 : GoodIn wsX6_init (wsX1_init) := ggX6_init_X1_init
set_option maxRecDepth 20000 in
theorem ggX6_init_X0_init : GoodIn wsX6_init wsX0_init := goodIn_r _ [88, 89, 2, 3, 29, 90, 141, 142, 143, 144, 145] (by decide +kernel) (by decide +kernel)
set_option maxRecDepth 20000 in
theorem gX6_init_X0_init_n52 : GoodIn wsX6_init (wsX0_init) := ggX6_init_X0_init
theorem dX6_init_0 : decode cX6_init 0 = .ok (.aload_n 0, 1) := by decide +kernel
theorem dX6_init_1 : decode cX6_init 1 = .ok (.invokespecial 1, 3) := by decide +kernel
theorem dX6_init_4 : decode cX6_init 4 = .ok (.aload_n 0, 1) := by decide +kernel
theorem dX6_init_5 : decode cX6_init 5 = .ok (.new 7, 3) := by decide +kernel
theorem dX6_init_8 : decode cX6_init 8 = .ok (.dup, 1) := by decide +kernel
theorem dX6_init_9 : decode cX6_init 9 = .ok (.invokespecial 9, 3) := by decide +kernel
theorem dX6_init_12 : decode cX6_init 12 = .ok (.putfield 10, 3) := by decide +kernel
theorem dX6_init_15 : decode cX6_init 15 = .ok (.aload_n 0, 1) := by decide +kernel
theorem dX6_init_16 : decode cX6_init 16 = .ok (.new 16, 3) := by decide +kernel
theorem dX6_init_19 : decode cX6_init 19 = .ok (.dup, 1) := by decide +kernel
theorem dX6_init_20 : decode cX6_init 20 = .ok (.invokespecial 18, 3) := by decide +kernel
theorem dX6_init_23 : decode cX6_init 23 = .ok (.putfield 19, 3) := by decide +kernel
theorem dX6_init_26 : decode cX6_init 26 = .ok (.aload_n 0, 1) := by decide +kernel
theorem dX6_init_27 : decode cX6_init 27 = .ok (.new 23, 3) := by decide +kernel
theorem dX6_init_30 : decode cX6_init 30 = .ok (.dup, 1) := by decide +kernel
theorem dX6_init_31 : decode cX6_init 31 = .ok (.invokespecial 25, 3) := by decide +kernel
theorem dX6_init_34 : decode cX6_init 34 = .ok (.putfield 26, 3) := by decide +kernel
theorem dX6_init_37 : decode cX6_init 37 = .ok (.aload_n 0, 1) := by decide +kernel
theorem dX6_init_38 : decode cX6_init 38 = .ok (.iconst 2, 1) := by decide +kernel
theorem dX6_init_39 : decode cX6_init 39 = .ok (.anewarray 23, 3) := by decide +kernel
theorem dX6_init_42 : decode cX6_init 42 = .ok (.putfield 30, 3) := by decide +kernel
theorem dX6_init_45 : decode cX6_init 45 = .ok (.iconst 0, 1) := by decide +kernel
theorem dX6_init_46 : decode cX6_init 46 = .ok (.istore_n 1, 1) := by decide +kernel
theorem dX6_init_47 : decode cX6_init 47 = .ok (.iload_n 1, 1) := by decide +kernel
theorem dX6_init_48 : decode cX6_init 48 = .ok (.iconst 2, 1) := by decide +kernel
theorem dX6_init_49 : decode cX6_init 49 = .ok (.if_icmp .ge 22, 3) := by decide +kernel
theorem dX6_init_52 : decode cX6_init 52 = .ok (.aload_n 0, 1) := by decide +kernel
theorem dX6_init_53 : decode cX6_init 53 = .ok (.getfield 30, 3) := by decide +kernel
theorem dX6_init_56 : decode cX6_init 56 = .ok (.iload_n 1, 1) := by decide +kernel
theorem dX6_init_57 : decode cX6_init 57 = .ok (.new 23, 3) := by decide +kernel
theorem dX6_init_60 : decode cX6_init 60 = .ok (.dup, 1) := by decide +kernel
theorem dX6_init_61 : decode cX6_init 61 = .ok (.invokespecial 25, 3) := by decide +kernel
theorem dX6_init_64 : decode cX6_init 64 = .ok (.aastore, 1) := by decide +kernel
theorem dX6_init_65 : decode cX6_init 65 = .ok (.iinc 1 1, 3) := by decide +kernel
theorem dX6_init_68 : decode cX6_init 68 = .ok (.goto (-21), 3) := by decide +kernel
theorem dX6_init_71 : decode cX6_init 71 = .ok (.aload_n 0, 1) := by decide +kernel
theorem dX6_init_72 : decode cX6_init 72 = .ok (.new 34, 3) := by decide +kernel
theorem dX6_init_75 : decode cX6_init 75 = .ok (.dup, 1) := by decide +kernel
theorem dX6_init_76 : decode cX6_init 76 = .ok (.aload_n 0, 1) := by decide +kernel
theorem dX6_init_77 : decode cX6_init 77 = .ok (.getfield 10, 3) := by decide +kernel
theorem dX6_init_80 : decode cX6_init 80 = .ok (.aload_n 0, 1) := by decide +kernel
theorem dX6_init_81 : decode cX6_init 81 = .ok (.getfield 26, 3) := by decide +kernel
theorem dX6_init_84 : decode cX6_init 84 = .ok (.invokespecial 36, 3) := by decide +kernel
theorem dX6_init_87 : decode cX6_init 87 = .ok (.putfield 39, 3) := by decide +kernel
theorem dX6_init_90 : decode cX6_init 90 = .ok (.aload_n 0, 1) := by decide +kernel
theorem dX6_init_91 : decode cX6_init 91 = .ok (.new 43, 3) := by decide +kernel
theorem dX6_init_94 : decode cX6_init 94 = .ok (.dup, 1) := by decide +kernel
theorem dX6_init_95 : decode cX6_init 95 = .ok (.invokespecial 45, 3) := by decide +kernel
theorem dX6_init_98 : decode cX6_init 98 = .ok (.putfield 46, 3) := by decide +kernel
theorem dX6_init_101 : decode cX6_init 101 = .ok (.aload_n 0, 1) := by decide +kernel
theorem dX6_init_102 : decode cX6_init 102 = .ok (.new 50, 3) := by decide +kernel
theorem dX6_init_105 : decode cX6_init 105 = .ok (.dup, 1) := by decide +kernel
theorem dX6_init_106 : decode cX6_init 106 = .ok (.invokespecial 52, 3) := by decide +kernel
theorem dX6_init_109 : decode cX6_init 109 = .ok (.putfield 53, 3) := by decide +kernel
theorem dX6_init_112 : decode cX6_init 112 = .ok (.aload_n 0, 1) := by decide +kernel
theorem dX6_init_113 : decode cX6_init 113 = .ok (.bipush 16, 2) := by decide +kernel
theorem dX6_init_115 : decode cX6_init 115 = .ok (.newarray .int, 2) := by decide +kernel
theorem dX6_init_117 : decode cX6_init 117 = .ok (.putfield 57, 3) := by decide +kernel
theorem dX6_init_120 : decode cX6_init 120 = .ok (.return_, 1) := by decide +kernel
set_option maxRecDepth 20000 in
theorem ggX6_feed_X3_append : GoodIn wsX6_feed wsX3_append := goodIn_r _ [9, 10, 11, 20, 21, 22, 23, 24, 25, 26, 27, 28] (by decide +kernel) (by decide +kernel)
set_option maxRecDepth 20000 in
theorem gX6_feed_X3_append : GoodIn wsX6_feed (wsV RX6 67 RX3 yX3_append wsX3_append) := goodIn_app (goodIn_of _ (by decide +kernel)) ggX6_feed_X3_append
theorem dX6_feed_0 : decode cX6_feed 0 = .ok (.iload_n 1, 1) := by decide +kernel
theorem dX6_feed_1 : decode cX6_feed 1 = .ok (.iconst 1, 1) := by decide +kernel
theorem dX6_feed_2 : decode cX6_feed 2 = .ok (.if_icmp .lt 9, 3) := by decide +kernel
theorem dX6_feed_5 : decode cX6_feed 5 = .ok (.iload_n 1, 1) := by decide +kernel
theorem dX6_feed_6 : decode cX6_feed 6 = .ok (.bipush 8, 2) := by decide +kernel
theorem dX6_feed_8 : decode cX6_feed 8 = .ok (.if_icmp .le 6, 3) := by decide +kernel
theorem dX6_feed_11 : decode cX6_feed 11 = .ok (.ldc 61, 2) := by decide +kernel
theorem dX6_feed_13 : decode cX6_feed 13 = .ok (.ireturn, 1) := by decide +kernel
theorem dX6_feed_14 : decode cX6_feed 14 = .ok (.aload_n 0, 1) := by decide +kernel
theorem dX6_feed_15 : decode cX6_feed 15 = .ok (.getfield 19, 3) := by decide +kernel
theorem dX6_feed_18 : decode cX6_feed 18 = .ok (.getfield 62, 3) := by decide +kernel
theorem dX6_feed_21 : decode cX6_feed 21 = .ok (.iload_n 1, 1) := by decide +kernel
theorem dX6_feed_22 : decode cX6_feed 22 = .ok (.iadd, 1) := by decide +kernel
theorem dX6_feed_23 : decode cX6_feed 23 = .ok (.sipush 500, 3) := by decide +kernel
theorem dX6_feed_26 : decode cX6_feed 26 = .ok (.if_icmp .le 6, 3) := by decide +kernel
theorem dX6_feed_29 : decode cX6_feed 29 = .ok (.ldc 66, 2) := by decide +kernel
theorem dX6_feed_31 : decode cX6_feed 31 = .ok (.ireturn, 1) := by decide +kernel
theorem dX6_feed_32 : decode cX6_feed 32 = .ok (.iload_n 1, 1) := by decide +kernel
theorem dX6_feed_33 : decode cX6_feed 33 = .ok (.iconst 1, 1) := by decide +kernel
theorem dX6_feed_34 : decode cX6_feed 34 = .ok (.isub, 1) := by decide +kernel
theorem dX6_feed_35 : decode cX6_feed 35 = .ok (.istore 4, 2) := by decide +kernel
theorem dX6_feed_37 : decode cX6_feed 37 = .ok (.iload 4, 2) := by decide +kernel
theorem dX6_feed_39 : decode cX6_feed 39 = .ok (.ifCond .lt 25, 3) := by decide +kernel
theorem dX6_feed_42 : decode cX6_feed 42 = .ok (.aload_n 0, 1) := by decide +kernel
theorem dX6_feed_43 : decode cX6_feed 43 = .ok (.getfield 19, 3) := by decide +kernel
theorem dX6_feed_46 : decode cX6_feed 46 = .ok (.lload_n 2, 1) := by decide +kernel
theorem dX6_feed_47 : decode cX6_feed 47 = .ok (.bipush 8, 2) := by decide +kernel
theorem dX6_feed_49 : decode cX6_feed 49 = .ok (.iload 4, 2) := by decide +kernel
theorem dX6_feed_51 : decode cX6_feed 51 = .ok (.imul, 1) := by decide +kernel
theorem dX6_feed_52 : decode cX6_feed 52 = .ok (.lushr, 1) := by decide +kernel
theorem dX6_feed_53 : decode cX6_feed 53 = .ok (.l2i, 1) := by decide +kernel
theorem dX6_feed_54 : decode cX6_feed 54 = .ok (.i2b, 1) := by decide +kernel
theorem dX6_feed_55 : decode cX6_feed 55 = .ok (.invokevirtual 67, 3) := by decide +kernel
theorem dX6_feed_58 : decode cX6_feed 58 = .ok (.iinc 4 (-1), 3) := by decide +kernel
theorem dX6_feed_61 : decode cX6_feed 61 = .ok (.goto (-24), 3) := by decide +kernel
theorem dX6_feed_64 : decode cX6_feed 64 = .ok (.aload_n 0, 1) := by decide +kernel
theorem dX6_feed_65 : decode cX6_feed 65 = .ok (.getfield 19, 3) := by decide +kernel
theorem dX6_feed_68 : decode cX6_feed 68 = .ok (.getfield 62, 3) := by decide +kernel
theorem dX6_feed_71 : decode cX6_feed 71 = .ok (.ireturn, 1) := by decide +kernel
set_option maxRecDepth 20000 in
theorem ggX6_lake_X3_readAll : GoodIn wsX6_lake wsX3_readAll := goodIn_r _ [14, 15, 16, 17, 18, 19, 20, 13, 21, 22, 23, 24, 25, 26, 27, 28, 29, 30, 31, 32, 33, 34, 35, 36, 37, 38, 39, 40, 41, 42, 43, 44, 45, 46, 47, 48, 49, 50, 51, 52, 53, 54, 55, 56, 57, 58, 59, 60, 61, 62, 63, 64, 65, 66, 67, 68, 69, 70, 71, 72, 73, 74, 75, 76, 77, 78, 79, 80, 81, 82, 83, 84, 85, 86, 87, 88, 89, 90, 91, 92, 93, 94, 95, 96, 97, 98, 99, 100, 101, 102, 103, 104, 105, 106, 107, 108, 109, 110, 111, 112, 113, 114, 115, 116, 117, 118, 119, 120, 121, 122, 123, 124, 125, 126, 127, 128, 129, 130, 131, 132, 133, 134, 135, 136, 137, 138, 139, 140, 141, 142, 143, 144, 145, 146, 147, 148, 149, 150, 151, 152, 153, 154, 155, 156, 157, 158, 159, 160, 161, 162, 163, 164, 165, 166, 167, 168, 169, 170, 171, 172, 205, 206, 207, 208, 209, 210, 211, 212, 213, 225, 226, 227, 228, 229, 230, 231, 232, 233, 234, 235, 236, 237, 238] (by decide +kernel) (by decide +kernel)
set_option maxRecDepth 20000 in
theorem gX6_lake_X3_readAll : GoodIn wsX6_lake (wsV RX6 71 RX3 yX3_readAll wsX3_readAll) := goodIn_app (goodIn_of _ (by decide +kernel)) ggX6_lake_X3_readAll
set_option maxRecDepth 20000 in
theorem ggX6_lake_X2_copyFrom : GoodIn wsX6_lake wsX2_copyFrom := goodIn_r _ [176, 31, 32, 33, 34, 35, 36, 163, 177, 178, 179, 180, 164, 165, 37, 38, 170, 171, 172, 225, 226, 227, 228, 229, 230, 231, 232, 233, 234, 235, 236, 237, 238] (by decide +kernel) (by decide +kernel)
set_option maxRecDepth 20000 in
theorem gX6_lake_X2_copyFrom : GoodIn wsX6_lake (wsV RX6 81 RX2 yX2_copyFrom wsX2_copyFrom) := goodIn_app (goodIn_of _ (by decide +kernel)) ggX6_lake_X2_copyFrom
set_option maxRecDepth 20000 in
theorem ggX6_lake_X5_restart : GoodIn wsX6_lake wsX5_restart := goodIn_r _ [185, 186, 187, 188, 189, 190, 178, 179, 180, 191, 192, 218, 219, 220, 221, 222, 223, 224, 225, 226, 227, 228, 229, 230, 231, 232, 233, 234, 235, 236, 237, 238] (by decide +kernel) (by decide +kernel)
set_option maxRecDepth 20000 in
theorem gX6_lake_X5_restart : GoodIn wsX6_lake (wsV RX6 85 RX5 yX5_restart wsX5_restart) := goodIn_app (goodIn_of _ (by decide +kernel)) ggX6_lake_X5_restart
set_option maxRecDepth 20000 in
theorem ggX6_lake_X2_cells : GoodIn wsX6_lake wsX2_cells := goodIn_r _ [196, 31, 32, 225, 226, 227, 228, 229, 230, 231, 232, 233, 234, 235, 236, 237, 238] (by decide +kernel) (by decide +kernel)
set_option maxRecDepth 20000 in
theorem gX6_lake_X2_cells : GoodIn wsX6_lake (wsV RX6 95 RX2 yX2_cells wsX2_cells) := goodIn_app (goodIn_of _ (by decide +kernel)) ggX6_lake_X2_cells
theorem dX6_lake_0 : decode cX6_lake 0 = .ok (.aload_n 0, 1) := by decide +kernel
theorem dX6_lake_1 : decode cX6_lake 1 = .ok (.getfield 19, 3) := by decide +kernel
theorem dX6_lake_4 : decode cX6_lake 4 = .ok (.invokevirtual 71, 3) := by decide +kernel
theorem dX6_lake_7 : decode cX6_lake 7 = .ok (.ifCond .ne 14, 3) := by decide +kernel
theorem dX6_lake_10 : decode cX6_lake 10 = .ok (.bipush (-10), 2) := by decide +kernel
theorem dX6_lake_12 : decode cX6_lake 12 = .ok (.aload_n 0, 1) := by decide +kernel
theorem dX6_lake_13 : decode cX6_lake 13 = .ok (.getfield 19, 3) := by decide +kernel
theorem dX6_lake_16 : decode cX6_lake 16 = .ok (.getfield 75, 3) := by decide +kernel
theorem dX6_lake_19 : decode cX6_lake 19 = .ok (.isub, 1) := by decide +kernel
theorem dX6_lake_20 : decode cX6_lake 20 = .ok (.ireturn, 1) := by decide +kernel
theorem dX6_lake_21 : decode cX6_lake 21 = .ok (.aload_n 0, 1) := by decide +kernel
theorem dX6_lake_22 : decode cX6_lake 22 = .ok (.getfield 10, 3) := by decide +kernel
theorem dX6_lake_25 : decode cX6_lake 25 = .ok (.aload_n 0, 1) := by decide +kernel
theorem dX6_lake_26 : decode cX6_lake 26 = .ok (.getfield 19, 3) := by decide +kernel
theorem dX6_lake_29 : decode cX6_lake 29 = .ok (.getfield 78, 3) := by decide +kernel
theorem dX6_lake_32 : decode cX6_lake 32 = .ok (.invokevirtual 81, 3) := by decide +kernel
theorem dX6_lake_35 : decode cX6_lake 35 = .ok (.aload_n 0, 1) := by decide +kernel
theorem dX6_lake_36 : decode cX6_lake 36 = .ok (.getfield 26, 3) := by decide +kernel
theorem dX6_lake_39 : decode cX6_lake 39 = .ok (.aload_n 0, 1) := by decide +kernel
theorem dX6_lake_40 : decode cX6_lake 40 = .ok (.getfield 10, 3) := by decide +kernel
theorem dX6_lake_43 : decode cX6_lake 43 = .ok (.invokevirtual 85, 3) := by decide +kernel
theorem dX6_lake_46 : decode cX6_lake 46 = .ok (.aload_n 0, 1) := by decide +kernel
theorem dX6_lake_47 : decode cX6_lake 47 = .ok (.getfield 46, 3) := by decide +kernel
theorem dX6_lake_50 : decode cX6_lake 50 = .ok (.iconst 0, 1) := by decide +kernel
theorem dX6_lake_51 : decode cX6_lake 51 = .ok (.putfield 88, 3) := by decide +kernel
theorem dX6_lake_54 : decode cX6_lake 54 = .ok (.iconst 0, 1) := by decide +kernel
theorem dX6_lake_55 : decode cX6_lake 55 = .ok (.istore_n 1, 1) := by decide +kernel
theorem dX6_lake_56 : decode cX6_lake 56 = .ok (.iload_n 1, 1) := by decide +kernel
theorem dX6_lake_57 : decode cX6_lake 57 = .ok (.iconst 2, 1) := by decide +kernel
theorem dX6_lake_58 : decode cX6_lake 58 = .ok (.if_icmp .ge 19, 3) := by decide +kernel
theorem dX6_lake_61 : decode cX6_lake 61 = .ok (.aload_n 0, 1) := by decide +kernel
theorem dX6_lake_62 : decode cX6_lake 62 = .ok (.getfield 30, 3) := by decide +kernel
theorem dX6_lake_65 : decode cX6_lake 65 = .ok (.iload_n 1, 1) := by decide +kernel
theorem dX6_lake_66 : decode cX6_lake 66 = .ok (.aaload, 1) := by decide +kernel
theorem dX6_lake_67 : decode cX6_lake 67 = .ok (.iconst 0, 1) := by decide +kernel
theorem dX6_lake_68 : decode cX6_lake 68 = .ok (.putfield 91, 3) := by decide +kernel
theorem dX6_lake_71 : decode cX6_lake 71 = .ok (.iinc 1 1, 3) := by decide +kernel
theorem dX6_lake_74 : decode cX6_lake 74 = .ok (.goto (-18), 3) := by decide +kernel
theorem dX6_lake_77 : decode cX6_lake 77 = .ok (.aload_n 0, 1) := by decide +kernel
theorem dX6_lake_78 : decode cX6_lake 78 = .ok (.getfield 10, 3) := by decide +kernel
theorem dX6_lake_81 : decode cX6_lake 81 = .ok (.invokevirtual 95, 3) := by decide +kernel
theorem dX6_lake_84 : decode cX6_lake 84 = .ok (.ireturn, 1) := by decide +kernel
theorem dX6_fault_0 : decode cX6_fault 0 = .ok (.aload_n 0, 1) := by decide +kernel
theorem dX6_fault_1 : decode cX6_fault 1 = .ok (.getfield 19, 3) := by decide +kernel
theorem dX6_fault_4 : decode cX6_fault 4 = .ok (.getfield 99, 3) := by decide +kernel
theorem dX6_fault_7 : decode cX6_fault 7 = .ok (.ireturn, 1) := by decide +kernel
set_option maxRecDepth 20000 in
theorem ggX6_told_X2_farOn : GoodIn wsX6_told wsX2_farOn := goodIn_r _ [19, 20, 21, 22, 23, 104, 105, 106, 107, 108, 109, 110, 111, 112, 113, 114, 115, 116, 117] (by decide +kernel) (by decide +kernel)
set_option maxRecDepth 20000 in
theorem gX6_told_X2_farOn : GoodIn wsX6_told (wsV RX6 117 RX2 yX2_farOn wsX2_farOn) := goodIn_app (goodIn_of _ (by decide +kernel)) ggX6_told_X2_farOn
set_option maxRecDepth 20000 in
theorem ggX6_told_X6_countFree : GoodIn wsX6_told wsX6_countFree := goodIn_r _ [28, 29, 1, 30, 31, 32, 33, 34, 35, 36, 37, 38, 39, 40, 41, 42, 43, 44, 45, 46, 47, 16, 17, 18, 19, 20, 21, 22, 23, 48, 49, 50, 51, 52, 53, 54, 55, 56, 57, 58, 59, 60, 61, 62, 63, 64, 65, 66, 67, 68, 69, 70, 71, 72, 73, 74, 75, 76, 77, 78, 79, 80, 81, 82, 83, 84, 85, 27, 86, 87, 88, 89, 90, 91, 92, 93, 94, 95, 96, 97, 98, 99, 100, 101, 102, 103, 138, 139, 140, 141, 142, 143, 144, 145, 104, 105, 106, 107, 108, 109, 110, 111, 112, 113, 114, 115, 116, 117, 127, 128, 129, 130, 131, 132, 133] (by decide +kernel) (by decide +kernel)
set_option maxRecDepth 20000 in
theorem gX6_told_X6_countFree : GoodIn wsX6_told (wsV RX6 127 RX6 yX6_countFree wsX6_countFree) := goodIn_app (goodIn_of _ (by decide +kernel)) ggX6_told_X6_countFree
theorem dX6_told_0 : decode cX6_told 0 = .ok (.iload_n 1, 1) := by decide +kernel
theorem dX6_told_1 : decode cX6_told 1 = .ok (.tableswitch 151 0 10 #[59, 67, 75, 83, 91, 99, 107, 122, 130, 138, 146], 59) := by decide +kernel
theorem dX6_told_60 : decode cX6_told 60 = .ok (.aload_n 0, 1) := by decide +kernel
theorem dX6_told_61 : decode cX6_told 61 = .ok (.getfield 10, 3) := by decide +kernel
theorem dX6_told_64 : decode cX6_told 64 = .ok (.getfield 102, 3) := by decide +kernel
theorem dX6_told_67 : decode cX6_told 67 = .ok (.ireturn, 1) := by decide +kernel
theorem dX6_told_68 : decode cX6_told 68 = .ok (.aload_n 0, 1) := by decide +kernel
theorem dX6_told_69 : decode cX6_told 69 = .ok (.getfield 10, 3) := by decide +kernel
theorem dX6_told_72 : decode cX6_told 72 = .ok (.getfield 105, 3) := by decide +kernel
theorem dX6_told_75 : decode cX6_told 75 = .ok (.ireturn, 1) := by decide +kernel
theorem dX6_told_76 : decode cX6_told 76 = .ok (.aload_n 0, 1) := by decide +kernel
theorem dX6_told_77 : decode cX6_told 77 = .ok (.getfield 10, 3) := by decide +kernel
theorem dX6_told_80 : decode cX6_told 80 = .ok (.getfield 108, 3) := by decide +kernel
theorem dX6_told_83 : decode cX6_told 83 = .ok (.ireturn, 1) := by decide +kernel
theorem dX6_told_84 : decode cX6_told 84 = .ok (.aload_n 0, 1) := by decide +kernel
theorem dX6_told_85 : decode cX6_told 85 = .ok (.getfield 19, 3) := by decide +kernel
theorem dX6_told_88 : decode cX6_told 88 = .ok (.getfield 62, 3) := by decide +kernel
theorem dX6_told_91 : decode cX6_told 91 = .ok (.ireturn, 1) := by decide +kernel
theorem dX6_told_92 : decode cX6_told 92 = .ok (.aload_n 0, 1) := by decide +kernel
theorem dX6_told_93 : decode cX6_told 93 = .ok (.getfield 26, 3) := by decide +kernel
theorem dX6_told_96 : decode cX6_told 96 = .ok (.getfield 111, 3) := by decide +kernel
theorem dX6_told_99 : decode cX6_told 99 = .ok (.ireturn, 1) := by decide +kernel
theorem dX6_told_100 : decode cX6_told 100 = .ok (.aload_n 0, 1) := by decide +kernel
theorem dX6_told_101 : decode cX6_told 101 = .ok (.getfield 26, 3) := by decide +kernel
theorem dX6_told_104 : decode cX6_told 104 = .ok (.getfield 114, 3) := by decide +kernel
theorem dX6_told_107 : decode cX6_told 107 = .ok (.ireturn, 1) := by decide +kernel
theorem dX6_told_108 : decode cX6_told 108 = .ok (.aload_n 0, 1) := by decide +kernel
theorem dX6_told_109 : decode cX6_told 109 = .ok (.getfield 10, 3) := by decide +kernel
theorem dX6_told_112 : decode cX6_told 112 = .ok (.aload_n 0, 1) := by decide +kernel
theorem dX6_told_113 : decode cX6_told 113 = .ok (.getfield 26, 3) := by decide +kernel
theorem dX6_told_116 : decode cX6_told 116 = .ok (.getfield 114, 3) := by decide +kernel
theorem dX6_told_119 : decode cX6_told 119 = .ok (.invokevirtual 117, 3) := by decide +kernel
theorem dX6_told_122 : decode cX6_told 122 = .ok (.ireturn, 1) := by decide +kernel
theorem dX6_told_123 : decode cX6_told 123 = .ok (.aload_n 0, 1) := by decide +kernel
theorem dX6_told_124 : decode cX6_told 124 = .ok (.getfield 46, 3) := by decide +kernel
theorem dX6_told_127 : decode cX6_told 127 = .ok (.getfield 88, 3) := by decide +kernel
theorem dX6_told_130 : decode cX6_told 130 = .ok (.ireturn, 1) := by decide +kernel
theorem dX6_told_131 : decode cX6_told 131 = .ok (.aload_n 0, 1) := by decide +kernel
theorem dX6_told_132 : decode cX6_told 132 = .ok (.getfield 10, 3) := by decide +kernel
theorem dX6_told_135 : decode cX6_told 135 = .ok (.getfield 121, 3) := by decide +kernel
theorem dX6_told_138 : decode cX6_told 138 = .ok (.ireturn, 1) := by decide +kernel
theorem dX6_told_139 : decode cX6_told 139 = .ok (.aload_n 0, 1) := by decide +kernel
theorem dX6_told_140 : decode cX6_told 140 = .ok (.getfield 10, 3) := by decide +kernel
theorem dX6_told_143 : decode cX6_told 143 = .ok (.getfield 124, 3) := by decide +kernel
theorem dX6_told_146 : decode cX6_told 146 = .ok (.ireturn, 1) := by decide +kernel
theorem dX6_told_147 : decode cX6_told 147 = .ok (.aload_n 0, 1) := by decide +kernel
theorem dX6_told_148 : decode cX6_told 148 = .ok (.invokevirtual 127, 3) := by decide +kernel
theorem dX6_told_151 : decode cX6_told 151 = .ok (.ireturn, 1) := by decide +kernel
theorem dX6_told_152 : decode cX6_told 152 = .ok (.ldc 61, 2) := by decide +kernel
theorem dX6_told_154 : decode cX6_told 154 = .ok (.ireturn, 1) := by decide +kernel
set_option maxRecDepth 20000 in
theorem ggX6_cell_X2_hasCell : GoodIn wsX6_cell wsX2_hasCell := goodIn_r _ [13, 14, 15, 114, 115, 116, 117, 118, 119, 120, 121, 122, 123, 124, 125, 126, 127] (by decide +kernel) (by decide +kernel)
set_option maxRecDepth 20000 in
theorem gX6_cell_X2_hasCell : GoodIn wsX6_cell (wsV RX6 130 RX2 yX2_hasCell wsX2_hasCell) := goodIn_app (goodIn_of _ (by decide +kernel)) ggX6_cell_X2_hasCell
set_option maxRecDepth 20000 in
theorem ggX6_cell_X2_numberOf : GoodIn wsX6_cell wsX2_numberOf := goodIn_r _ [19, 14, 114, 115, 116, 117, 118, 119, 120, 121, 122, 123, 124, 125, 126, 127] (by decide +kernel) (by decide +kernel)
set_option maxRecDepth 20000 in
theorem gX6_cell_X2_numberOf : GoodIn wsX6_cell (wsV RX6 135 RX2 yX2_numberOf wsX2_numberOf) := goodIn_app (goodIn_of _ (by decide +kernel)) ggX6_cell_X2_numberOf
set_option maxRecDepth 20000 in
theorem ggX6_cell_X4_lookAll : GoodIn wsX6_cell wsX4_lookAll := goodIn_r _ [24, 25, 26, 27, 28, 29, 30, 23, 31, 32, 33, 34, 35, 36, 37, 38, 12, 39, 40, 41, 42, 43, 44, 45, 46, 47, 48, 49, 50, 51, 52, 53, 54, 55, 56, 57, 58, 59, 60, 61, 62, 63, 64, 65, 66, 67, 68, 69, 70, 71, 72, 73, 74, 75, 76, 17, 18, 19, 14, 77, 78, 79, 80, 81, 82, 83, 128, 129, 130, 131, 132, 133, 134, 135, 114, 115, 116, 117, 118, 119, 120, 121, 122, 123, 124, 125, 126, 127, 107, 108, 109, 110, 111, 112, 113] (by decide +kernel) (by decide +kernel)
set_option maxRecDepth 20000 in
theorem gX6_cell_X4_lookAll : GoodIn wsX6_cell (wsV RX6 145 RX4 yX4_lookAll wsX4_lookAll) := goodIn_app (goodIn_of _ (by decide +kernel)) ggX6_cell_X4_lookAll
set_option maxRecDepth 20000 in
theorem ggX6_cell_X4_ownersOf : GoodIn wsX6_cell wsX4_ownersOf := goodIn_r _ [87, 25, 26, 32, 88, 76, 17, 18, 12, 19, 14, 89, 90, 91, 23, 92, 27, 52, 57, 58, 55, 59, 93, 78, 94, 95, 96, 97, 98, 65, 66, 67, 68, 69, 70, 71, 128, 129, 130, 131, 132, 133, 134, 135, 107, 108, 109, 110, 111, 112, 113, 114, 115, 116, 117, 118, 119, 120, 121, 122, 123, 124, 125, 126, 127] (by decide +kernel) (by decide +kernel)
set_option maxRecDepth 20000 in
theorem gX6_cell_X4_ownersOf : GoodIn wsX6_cell (wsV RX6 151 RX4 yX4_ownersOf wsX4_ownersOf) := goodIn_app (goodIn_of _ (by decide +kernel)) ggX6_cell_X4_ownersOf
theorem dX6_cell_0 : decode cX6_cell 0 = .ok (.aload_n 0, 1) := by decide +kernel
theorem dX6_cell_1 : decode cX6_cell 1 = .ok (.getfield 10, 3) := by decide +kernel
theorem dX6_cell_4 : decode cX6_cell 4 = .ok (.iload_n 1, 1) := by decide +kernel
theorem dX6_cell_5 : decode cX6_cell 5 = .ok (.iload_n 2, 1) := by decide +kernel
theorem dX6_cell_6 : decode cX6_cell 6 = .ok (.invokevirtual 130, 3) := by decide +kernel
theorem dX6_cell_9 : decode cX6_cell 9 = .ok (.ifCond .ne 6, 3) := by decide +kernel
theorem dX6_cell_12 : decode cX6_cell 12 = .ok (.ldc 134, 2) := by decide +kernel
theorem dX6_cell_14 : decode cX6_cell 14 = .ok (.ireturn, 1) := by decide +kernel
theorem dX6_cell_15 : decode cX6_cell 15 = .ok (.aload_n 0, 1) := by decide +kernel
theorem dX6_cell_16 : decode cX6_cell 16 = .ok (.getfield 10, 3) := by decide +kernel
theorem dX6_cell_19 : decode cX6_cell 19 = .ok (.iload_n 1, 1) := by decide +kernel
theorem dX6_cell_20 : decode cX6_cell 20 = .ok (.iload_n 2, 1) := by decide +kernel
theorem dX6_cell_21 : decode cX6_cell 21 = .ok (.invokevirtual 135, 3) := by decide +kernel
theorem dX6_cell_24 : decode cX6_cell 24 = .ok (.istore 4, 2) := by decide +kernel
theorem dX6_cell_26 : decode cX6_cell 26 = .ok (.iload_n 3, 1) := by decide +kernel
theorem dX6_cell_27 : decode cX6_cell 27 = .ok (.tableswitch 86 0 3 #[29, 40, 51, 69], 29) := by decide +kernel
theorem dX6_cell_56 : decode cX6_cell 56 = .ok (.aload_n 0, 1) := by decide +kernel
theorem dX6_cell_57 : decode cX6_cell 57 = .ok (.getfield 26, 3) := by decide +kernel
theorem dX6_cell_60 : decode cX6_cell 60 = .ok (.getfield 139, 3) := by decide +kernel
theorem dX6_cell_63 : decode cX6_cell 63 = .ok (.iload 4, 2) := by decide +kernel
theorem dX6_cell_65 : decode cX6_cell 65 = .ok (.iaload, 1) := by decide +kernel
theorem dX6_cell_66 : decode cX6_cell 66 = .ok (.ireturn, 1) := by decide +kernel
theorem dX6_cell_67 : decode cX6_cell 67 = .ok (.aload_n 0, 1) := by decide +kernel
theorem dX6_cell_68 : decode cX6_cell 68 = .ok (.getfield 10, 3) := by decide +kernel
theorem dX6_cell_71 : decode cX6_cell 71 = .ok (.getfield 142, 3) := by decide +kernel
theorem dX6_cell_74 : decode cX6_cell 74 = .ok (.iload 4, 2) := by decide +kernel
theorem dX6_cell_76 : decode cX6_cell 76 = .ok (.iaload, 1) := by decide +kernel
theorem dX6_cell_77 : decode cX6_cell 77 = .ok (.ireturn, 1) := by decide +kernel
theorem dX6_cell_78 : decode cX6_cell 78 = .ok (.aload_n 0, 1) := by decide +kernel
theorem dX6_cell_79 : decode cX6_cell 79 = .ok (.getfield 39, 3) := by decide +kernel
theorem dX6_cell_82 : decode cX6_cell 82 = .ok (.invokevirtual 145, 3) := by decide +kernel
theorem dX6_cell_85 : decode cX6_cell 85 = .ok (.aload_n 0, 1) := by decide +kernel
theorem dX6_cell_86 : decode cX6_cell 86 = .ok (.getfield 39, 3) := by decide +kernel
theorem dX6_cell_89 : decode cX6_cell 89 = .ok (.getfield 148, 3) := by decide +kernel
theorem dX6_cell_92 : decode cX6_cell 92 = .ok (.iload 4, 2) := by decide +kernel
theorem dX6_cell_94 : decode cX6_cell 94 = .ok (.iaload, 1) := by decide +kernel
theorem dX6_cell_95 : decode cX6_cell 95 = .ok (.ireturn, 1) := by decide +kernel
theorem dX6_cell_96 : decode cX6_cell 96 = .ok (.aload_n 0, 1) := by decide +kernel
theorem dX6_cell_97 : decode cX6_cell 97 = .ok (.getfield 39, 3) := by decide +kernel
theorem dX6_cell_100 : decode cX6_cell 100 = .ok (.invokevirtual 145, 3) := by decide +kernel
theorem dX6_cell_103 : decode cX6_cell 103 = .ok (.aload_n 0, 1) := by decide +kernel
theorem dX6_cell_104 : decode cX6_cell 104 = .ok (.getfield 39, 3) := by decide +kernel
theorem dX6_cell_107 : decode cX6_cell 107 = .ok (.iload_n 1, 1) := by decide +kernel
theorem dX6_cell_108 : decode cX6_cell 108 = .ok (.iload_n 2, 1) := by decide +kernel
theorem dX6_cell_109 : decode cX6_cell 109 = .ok (.invokevirtual 151, 3) := by decide +kernel
theorem dX6_cell_112 : decode cX6_cell 112 = .ok (.ireturn, 1) := by decide +kernel
theorem dX6_cell_113 : decode cX6_cell 113 = .ok (.ldc 61, 2) := by decide +kernel
theorem dX6_cell_115 : decode cX6_cell 115 = .ok (.ireturn, 1) := by decide +kernel
set_option maxRecDepth 20000 in
theorem ggX6_man_X2_hasMan : GoodIn wsX6_man wsX2_hasMan := goodIn_r _ [14, 15, 125, 126, 127, 128, 129, 130, 131, 132, 133, 134, 135, 136, 137, 138] (by decide +kernel) (by decide +kernel)
set_option maxRecDepth 20000 in
theorem gX6_man_X2_hasMan : GoodIn wsX6_man (wsV RX6 154 RX2 yX2_hasMan wsX2_hasMan) := goodIn_app (goodIn_of _ (by decide +kernel)) ggX6_man_X2_hasMan
set_option maxRecDepth 20000 in
theorem ggX6_man_X4_eyeOf : GoodIn wsX6_man wsX4_eyeOf := goodIn_r _ [20, 21, 22, 23, 24, 25, 146, 147, 148, 149, 150, 151, 152, 153, 125, 126, 127, 128, 129, 130, 131, 132, 133, 134, 135, 136, 137, 138, 139, 140, 141, 142, 143, 144, 145] (by decide +kernel) (by decide +kernel)
set_option maxRecDepth 20000 in
theorem gX6_man_X4_eyeOf : GoodIn wsX6_man (wsV RX6 167 RX4 yX4_eyeOf wsX4_eyeOf) := goodIn_app (goodIn_of _ (by decide +kernel)) ggX6_man_X4_eyeOf
set_option maxRecDepth 20000 in
theorem ggX6_man_X6_countSeen : GoodIn wsX6_man wsX6_countSeen := goodIn_r _ [30, 7, 1, 31, 32, 33, 34, 19, 35, 36, 21, 37, 38, 39, 40, 41, 23, 42, 43, 44, 45, 46, 47, 13, 48, 49, 50, 51, 52, 53, 54, 55, 56, 57, 58, 59, 60, 61, 62, 63, 64, 65, 66, 67, 68, 69, 70, 71, 72, 73, 74, 17, 18, 20, 22, 24, 25, 75, 76, 77, 78, 79, 80, 81, 82, 83, 84, 29, 85, 86, 87, 88, 89, 90, 91, 92, 93, 94, 95, 96, 97, 117, 118, 119, 120, 121, 122, 123, 124, 146, 147, 148, 149, 150, 151, 152, 153, 125, 126, 127, 128, 129, 130, 131, 132, 133, 134, 135, 136, 137, 138, 139, 140, 141, 142, 143, 144, 145] (by decide +kernel) (by decide +kernel)
set_option maxRecDepth 20000 in
theorem gX6_man_X6_countSeen : GoodIn wsX6_man (wsV RX6 173 RX6 yX6_countSeen wsX6_countSeen) := goodIn_app (goodIn_of _ (by decide +kernel)) ggX6_man_X6_countSeen
set_option maxRecDepth 20000 in
theorem ggX6_man_X6_countOwned : GoodIn wsX6_man wsX6_countOwned := goodIn_r _ [101, 7, 1, 102, 103, 32, 33, 34, 19, 35, 36, 21, 37, 38, 39, 40, 41, 23, 42, 43, 44, 45, 46, 47, 13, 48, 49, 50, 51, 52, 53, 54, 55, 56, 57, 58, 59, 60, 61, 62, 63, 64, 65, 66, 67, 68, 69, 70, 71, 72, 73, 74, 17, 18, 20, 22, 24, 25, 75, 76, 77, 78, 79, 80, 81, 82, 83, 84, 29, 85, 86, 87, 88, 89, 104, 105, 106, 107, 108, 109, 110, 111, 112, 96, 97, 113, 114, 115, 116, 95, 117, 118, 119, 120, 121, 122, 123, 124, 125, 126, 127, 128, 129, 130, 131, 132, 133, 134, 135, 136, 137, 138, 146, 147, 148, 149, 150, 151, 152, 153, 139, 140, 141, 142, 143, 144, 145] (by decide +kernel) (by decide +kernel)
set_option maxRecDepth 20000 in
theorem gX6_man_X6_countOwned : GoodIn wsX6_man (wsV RX6 176 RX6 yX6_countOwned wsX6_countOwned) := goodIn_app (goodIn_of _ (by decide +kernel)) ggX6_man_X6_countOwned
theorem dX6_man_0 : decode cX6_man 0 = .ok (.aload_n 0, 1) := by decide +kernel
theorem dX6_man_1 : decode cX6_man 1 = .ok (.getfield 10, 3) := by decide +kernel
theorem dX6_man_4 : decode cX6_man 4 = .ok (.iload_n 1, 1) := by decide +kernel
theorem dX6_man_5 : decode cX6_man 5 = .ok (.invokevirtual 154, 3) := by decide +kernel
theorem dX6_man_8 : decode cX6_man 8 = .ok (.ifCond .ne 6, 3) := by decide +kernel
theorem dX6_man_11 : decode cX6_man 11 = .ok (.ldc 134, 2) := by decide +kernel
theorem dX6_man_13 : decode cX6_man 13 = .ok (.ireturn, 1) := by decide +kernel
theorem dX6_man_14 : decode cX6_man 14 = .ok (.iload_n 2, 1) := by decide +kernel
theorem dX6_man_15 : decode cX6_man 15 = .ok (.tableswitch 102 0 6 #[41, 51, 61, 71, 80, 90, 96], 41) := by decide +kernel
theorem dX6_man_56 : decode cX6_man 56 = .ok (.aload_n 0, 1) := by decide +kernel
theorem dX6_man_57 : decode cX6_man 57 = .ok (.getfield 10, 3) := by decide +kernel
theorem dX6_man_60 : decode cX6_man 60 = .ok (.getfield 158, 3) := by decide +kernel
theorem dX6_man_63 : decode cX6_man 63 = .ok (.iload_n 1, 1) := by decide +kernel
theorem dX6_man_64 : decode cX6_man 64 = .ok (.iaload, 1) := by decide +kernel
theorem dX6_man_65 : decode cX6_man 65 = .ok (.ireturn, 1) := by decide +kernel
theorem dX6_man_66 : decode cX6_man 66 = .ok (.aload_n 0, 1) := by decide +kernel
theorem dX6_man_67 : decode cX6_man 67 = .ok (.getfield 10, 3) := by decide +kernel
theorem dX6_man_70 : decode cX6_man 70 = .ok (.getfield 161, 3) := by decide +kernel
theorem dX6_man_73 : decode cX6_man 73 = .ok (.iload_n 1, 1) := by decide +kernel
theorem dX6_man_74 : decode cX6_man 74 = .ok (.iaload, 1) := by decide +kernel
theorem dX6_man_75 : decode cX6_man 75 = .ok (.ireturn, 1) := by decide +kernel
theorem dX6_man_76 : decode cX6_man 76 = .ok (.aload_n 0, 1) := by decide +kernel
theorem dX6_man_77 : decode cX6_man 77 = .ok (.getfield 26, 3) := by decide +kernel
theorem dX6_man_80 : decode cX6_man 80 = .ok (.getfield 164, 3) := by decide +kernel
theorem dX6_man_83 : decode cX6_man 83 = .ok (.iload_n 1, 1) := by decide +kernel
theorem dX6_man_84 : decode cX6_man 84 = .ok (.iaload, 1) := by decide +kernel
theorem dX6_man_85 : decode cX6_man 85 = .ok (.ireturn, 1) := by decide +kernel
theorem dX6_man_86 : decode cX6_man 86 = .ok (.aload_n 0, 1) := by decide +kernel
theorem dX6_man_87 : decode cX6_man 87 = .ok (.getfield 39, 3) := by decide +kernel
theorem dX6_man_90 : decode cX6_man 90 = .ok (.iload_n 1, 1) := by decide +kernel
theorem dX6_man_91 : decode cX6_man 91 = .ok (.invokevirtual 167, 3) := by decide +kernel
theorem dX6_man_94 : decode cX6_man 94 = .ok (.ireturn, 1) := by decide +kernel
theorem dX6_man_95 : decode cX6_man 95 = .ok (.aload_n 0, 1) := by decide +kernel
theorem dX6_man_96 : decode cX6_man 96 = .ok (.getfield 26, 3) := by decide +kernel
theorem dX6_man_99 : decode cX6_man 99 = .ok (.getfield 170, 3) := by decide +kernel
theorem dX6_man_102 : decode cX6_man 102 = .ok (.iload_n 1, 1) := by decide +kernel
theorem dX6_man_103 : decode cX6_man 103 = .ok (.iaload, 1) := by decide +kernel
theorem dX6_man_104 : decode cX6_man 104 = .ok (.ireturn, 1) := by decide +kernel
theorem dX6_man_105 : decode cX6_man 105 = .ok (.aload_n 0, 1) := by decide +kernel
theorem dX6_man_106 : decode cX6_man 106 = .ok (.iload_n 1, 1) := by decide +kernel
theorem dX6_man_107 : decode cX6_man 107 = .ok (.invokevirtual 173, 3) := by decide +kernel
theorem dX6_man_110 : decode cX6_man 110 = .ok (.ireturn, 1) := by decide +kernel
theorem dX6_man_111 : decode cX6_man 111 = .ok (.aload_n 0, 1) := by decide +kernel
theorem dX6_man_112 : decode cX6_man 112 = .ok (.iload_n 1, 1) := by decide +kernel
theorem dX6_man_113 : decode cX6_man 113 = .ok (.invokevirtual 176, 3) := by decide +kernel
theorem dX6_man_116 : decode cX6_man 116 = .ok (.ireturn, 1) := by decide +kernel
theorem dX6_man_117 : decode cX6_man 117 = .ok (.ldc 61, 2) := by decide +kernel
theorem dX6_man_119 : decode cX6_man 119 = .ok (.ireturn, 1) := by decide +kernel
set_option maxRecDepth 20000 in
theorem ggX6_sees_X2_hasMan : GoodIn wsX6_sees wsX2_hasMan := goodIn_r _ [10, 11, 83, 84, 85, 86, 87, 88, 89, 90, 91, 92, 93, 94, 95, 96] (by decide +kernel) (by decide +kernel)
set_option maxRecDepth 20000 in
theorem gX6_sees_X2_hasMan : GoodIn wsX6_sees (wsV RX6 154 RX2 yX2_hasMan wsX2_hasMan) := goodIn_app (goodIn_of _ (by decide +kernel)) ggX6_sees_X2_hasMan
set_option maxRecDepth 20000 in
theorem ggX6_sees_X2_hasCell : GoodIn wsX6_sees wsX2_hasCell := goodIn_r _ [15, 16, 17, 83, 84, 85, 86, 87, 88, 89, 90, 91, 92, 93, 94, 95, 96] (by decide +kernel) (by decide +kernel)
set_option maxRecDepth 20000 in
theorem gX6_sees_X2_hasCell : GoodIn wsX6_sees (wsV RX6 130 RX2 yX2_hasCell wsX2_hasCell) := goodIn_app (goodIn_of _ (by decide +kernel)) ggX6_sees_X2_hasCell
set_option maxRecDepth 20000 in
theorem ggX6_sees_X2_farOn : GoodIn wsX6_sees wsX2_farOn := goodIn_r _ [21, 22, 23, 24, 25, 83, 84, 85, 86, 87, 88, 89, 90, 91, 92, 93, 94, 95, 96] (by decide +kernel) (by decide +kernel)
set_option maxRecDepth 20000 in
theorem gX6_sees_X2_farOn : GoodIn wsX6_sees (wsV RX6 117 RX2 yX2_farOn wsX2_farOn) := goodIn_app (goodIn_of _ (by decide +kernel)) ggX6_sees_X2_farOn
set_option maxRecDepth 20000 in
theorem ggX6_sees_X4_canSee : GoodIn wsX6_sees wsX4_canSee := goodIn_r _ [30, 31, 32, 33, 29, 34, 35, 36, 37, 38, 39, 40, 41, 42, 43, 44, 45, 46, 47, 48, 49, 50, 51, 52, 53, 54, 55, 56, 57, 58, 59, 60, 61, 62, 63, 9, 64, 16, 65, 66, 67, 97, 98, 99, 100, 101, 102, 103, 104, 83, 84, 85, 86, 87, 88, 89, 90, 91, 92, 93, 94, 95, 96, 76, 77, 78, 79, 80, 81, 82] (by decide +kernel) (by decide +kernel)
set_option maxRecDepth 20000 in
theorem gX6_sees_X4_canSee : GoodIn wsX6_sees (wsV RX6 179 RX4 yX4_canSee wsX4_canSee) := goodIn_app (goodIn_of _ (by decide +kernel)) ggX6_sees_X4_canSee
theorem dX6_sees_0 : decode cX6_sees 0 = .ok (.aload_n 0, 1) := by decide +kernel
theorem dX6_sees_1 : decode cX6_sees 1 = .ok (.getfield 10, 3) := by decide +kernel
theorem dX6_sees_4 : decode cX6_sees 4 = .ok (.iload_n 1, 1) := by decide +kernel
theorem dX6_sees_5 : decode cX6_sees 5 = .ok (.invokevirtual 154, 3) := by decide +kernel
theorem dX6_sees_8 : decode cX6_sees 8 = .ok (.ifCond .eq 15, 3) := by decide +kernel
theorem dX6_sees_11 : decode cX6_sees 11 = .ok (.aload_n 0, 1) := by decide +kernel
theorem dX6_sees_12 : decode cX6_sees 12 = .ok (.getfield 10, 3) := by decide +kernel
theorem dX6_sees_15 : decode cX6_sees 15 = .ok (.iload_n 2, 1) := by decide +kernel
theorem dX6_sees_16 : decode cX6_sees 16 = .ok (.iload_n 3, 1) := by decide +kernel
theorem dX6_sees_17 : decode cX6_sees 17 = .ok (.invokevirtual 130, 3) := by decide +kernel
theorem dX6_sees_20 : decode cX6_sees 20 = .ok (.ifCond .ne 6, 3) := by decide +kernel
theorem dX6_sees_23 : decode cX6_sees 23 = .ok (.ldc 134, 2) := by decide +kernel
theorem dX6_sees_25 : decode cX6_sees 25 = .ok (.ireturn, 1) := by decide +kernel
theorem dX6_sees_26 : decode cX6_sees 26 = .ok (.aload_n 0, 1) := by decide +kernel
theorem dX6_sees_27 : decode cX6_sees 27 = .ok (.getfield 39, 3) := by decide +kernel
theorem dX6_sees_30 : decode cX6_sees 30 = .ok (.iload_n 1, 1) := by decide +kernel
theorem dX6_sees_31 : decode cX6_sees 31 = .ok (.iload_n 2, 1) := by decide +kernel
theorem dX6_sees_32 : decode cX6_sees 32 = .ok (.iload_n 3, 1) := by decide +kernel
theorem dX6_sees_33 : decode cX6_sees 33 = .ok (.aload_n 0, 1) := by decide +kernel
theorem dX6_sees_34 : decode cX6_sees 34 = .ok (.getfield 10, 3) := by decide +kernel
theorem dX6_sees_37 : decode cX6_sees 37 = .ok (.aload_n 0, 1) := by decide +kernel
theorem dX6_sees_38 : decode cX6_sees 38 = .ok (.getfield 26, 3) := by decide +kernel
theorem dX6_sees_41 : decode cX6_sees 41 = .ok (.getfield 114, 3) := by decide +kernel
theorem dX6_sees_44 : decode cX6_sees 44 = .ok (.invokevirtual 117, 3) := by decide +kernel
theorem dX6_sees_47 : decode cX6_sees 47 = .ok (.invokevirtual 179, 3) := by decide +kernel
theorem dX6_sees_50 : decode cX6_sees 50 = .ok (.ifCond .eq 7, 3) := by decide +kernel
theorem dX6_sees_53 : decode cX6_sees 53 = .ok (.iconst 1, 1) := by decide +kernel
theorem dX6_sees_54 : decode cX6_sees 54 = .ok (.goto 4, 3) := by decide +kernel
theorem dX6_sees_57 : decode cX6_sees 57 = .ok (.iconst 0, 1) := by decide +kernel
theorem dX6_sees_58 : decode cX6_sees 58 = .ok (.ireturn, 1) := by decide +kernel
set_option maxRecDepth 20000 in
theorem ggX6_blocker_X2_hasMan : GoodIn wsX6_blocker wsX2_hasMan := goodIn_r _ [8, 9, 51, 52, 53, 54, 55, 56, 57, 58, 59, 60, 61, 62, 63, 64] (by decide +kernel) (by decide +kernel)
set_option maxRecDepth 20000 in
theorem gX6_blocker_X2_hasMan : GoodIn wsX6_blocker (wsV RX6 154 RX2 yX2_hasMan wsX2_hasMan) := goodIn_app (goodIn_of _ (by decide +kernel)) ggX6_blocker_X2_hasMan
set_option maxRecDepth 20000 in
theorem ggX6_blocker_X2_hasCell : GoodIn wsX6_blocker wsX2_hasCell := goodIn_r _ [13, 14, 15, 51, 52, 53, 54, 55, 56, 57, 58, 59, 60, 61, 62, 63, 64] (by decide +kernel) (by decide +kernel)
set_option maxRecDepth 20000 in
theorem gX6_blocker_X2_hasCell : GoodIn wsX6_blocker (wsV RX6 130 RX2 yX2_hasCell wsX2_hasCell) := goodIn_app (goodIn_of _ (by decide +kernel)) ggX6_blocker_X2_hasCell
set_option maxRecDepth 20000 in
theorem ggX6_blocker_X4_firstBlock : GoodIn wsX6_blocker wsX4_firstBlock := goodIn_r _ [20, 21, 22, 23, 24, 25, 26, 19, 27, 28, 29, 30, 31, 32, 33, 34, 35, 36, 37, 38, 7, 39, 14, 40, 41, 42, 65, 66, 67, 68, 69, 70, 71, 72, 73, 74, 75, 76, 77, 78, 79, 51, 52, 53, 54, 55, 56, 57, 58, 59, 60, 61, 62, 63, 64] (by decide +kernel) (by decide +kernel)
set_option maxRecDepth 20000 in
theorem gX6_blocker_X4_firstBlock : GoodIn wsX6_blocker (wsV RX6 183 RX4 yX4_firstBlock wsX4_firstBlock) := goodIn_app (goodIn_of _ (by decide +kernel)) ggX6_blocker_X4_firstBlock
theorem dX6_blocker_0 : decode cX6_blocker 0 = .ok (.aload_n 0, 1) := by decide +kernel
theorem dX6_blocker_1 : decode cX6_blocker 1 = .ok (.getfield 10, 3) := by decide +kernel
theorem dX6_blocker_4 : decode cX6_blocker 4 = .ok (.iload_n 1, 1) := by decide +kernel
theorem dX6_blocker_5 : decode cX6_blocker 5 = .ok (.invokevirtual 154, 3) := by decide +kernel
theorem dX6_blocker_8 : decode cX6_blocker 8 = .ok (.ifCond .eq 15, 3) := by decide +kernel
theorem dX6_blocker_11 : decode cX6_blocker 11 = .ok (.aload_n 0, 1) := by decide +kernel
theorem dX6_blocker_12 : decode cX6_blocker 12 = .ok (.getfield 10, 3) := by decide +kernel
theorem dX6_blocker_15 : decode cX6_blocker 15 = .ok (.iload_n 2, 1) := by decide +kernel
theorem dX6_blocker_16 : decode cX6_blocker 16 = .ok (.iload_n 3, 1) := by decide +kernel
theorem dX6_blocker_17 : decode cX6_blocker 17 = .ok (.invokevirtual 130, 3) := by decide +kernel
theorem dX6_blocker_20 : decode cX6_blocker 20 = .ok (.ifCond .ne 6, 3) := by decide +kernel
theorem dX6_blocker_23 : decode cX6_blocker 23 = .ok (.ldc 134, 2) := by decide +kernel
theorem dX6_blocker_25 : decode cX6_blocker 25 = .ok (.ireturn, 1) := by decide +kernel
theorem dX6_blocker_26 : decode cX6_blocker 26 = .ok (.aload_n 0, 1) := by decide +kernel
theorem dX6_blocker_27 : decode cX6_blocker 27 = .ok (.getfield 39, 3) := by decide +kernel
theorem dX6_blocker_30 : decode cX6_blocker 30 = .ok (.iload_n 1, 1) := by decide +kernel
theorem dX6_blocker_31 : decode cX6_blocker 31 = .ok (.iload_n 2, 1) := by decide +kernel
theorem dX6_blocker_32 : decode cX6_blocker 32 = .ok (.iload_n 3, 1) := by decide +kernel
theorem dX6_blocker_33 : decode cX6_blocker 33 = .ok (.invokevirtual 183, 3) := by decide +kernel
theorem dX6_blocker_36 : decode cX6_blocker 36 = .ok (.ireturn, 1) := by decide +kernel
set_option maxRecDepth 20000 in
theorem ggX6_share_X2_hasMan : GoodIn wsX6_share wsX2_hasMan := goodIn_r _ [8, 9, 121, 122, 123, 124, 125, 126, 127, 128, 129, 130, 131, 132, 133, 134] (by decide +kernel) (by decide +kernel)
set_option maxRecDepth 20000 in
theorem gX6_share_X2_hasMan : GoodIn wsX6_share (wsV RX6 154 RX2 yX2_hasMan wsX2_hasMan) := goodIn_app (goodIn_of _ (by decide +kernel)) ggX6_share_X2_hasMan
set_option maxRecDepth 20000 in
theorem ggX6_share_X4_lookAll : GoodIn wsX6_share wsX4_lookAll := goodIn_r _ [14, 15, 16, 17, 18, 19, 20, 13, 21, 22, 23, 24, 25, 26, 27, 28, 7, 29, 30, 31, 32, 33, 34, 35, 36, 37, 38, 39, 40, 41, 42, 43, 44, 45, 46, 47, 48, 49, 50, 51, 52, 53, 54, 55, 56, 57, 58, 59, 60, 61, 62, 63, 64, 65, 66, 67, 68, 69, 70, 71, 72, 73, 74, 75, 76, 77, 135, 136, 137, 138, 139, 140, 141, 142, 121, 122, 123, 124, 125, 126, 127, 128, 129, 130, 131, 132, 133, 134, 143, 144, 145, 146, 147, 148, 149] (by decide +kernel) (by decide +kernel)
set_option maxRecDepth 20000 in
theorem gX6_share_X4_lookAll : GoodIn wsX6_share (wsV RX6 145 RX4 yX4_lookAll wsX4_lookAll) := goodIn_app (goodIn_of _ (by decide +kernel)) ggX6_share_X4_lookAll
set_option maxRecDepth 20000 in
theorem ggX6_share_X4_shareOf : GoodIn wsX6_share wsX4_shareOf := goodIn_r _ [81, 16, 24, 25, 47, 48, 45, 49, 82, 83, 84, 13, 85, 86, 87, 88, 89, 15, 22, 90, 66, 67, 68, 7, 69, 70, 91, 92, 93, 94, 17, 42, 95, 72, 96, 97, 98, 99, 100, 55, 56, 57, 58, 59, 60, 61, 101, 102, 103, 104, 105, 106, 107, 108, 109, 110, 111, 112, 135, 136, 137, 138, 139, 140, 141, 142, 121, 122, 123, 124, 125, 126, 127, 128, 129, 130, 131, 132, 133, 134, 143, 144, 145, 146, 147, 148, 149] (by decide +kernel) (by decide +kernel)
set_option maxRecDepth 20000 in
theorem gX6_share_X4_shareOf : GoodIn wsX6_share (wsV RX6 187 RX4 yX4_shareOf wsX4_shareOf) := goodIn_app (goodIn_of _ (by decide +kernel)) ggX6_share_X4_shareOf
theorem dX6_share_0 : decode cX6_share 0 = .ok (.aload_n 0, 1) := by decide +kernel
theorem dX6_share_1 : decode cX6_share 1 = .ok (.getfield 10, 3) := by decide +kernel
theorem dX6_share_4 : decode cX6_share 4 = .ok (.iload_n 1, 1) := by decide +kernel
theorem dX6_share_5 : decode cX6_share 5 = .ok (.invokevirtual 154, 3) := by decide +kernel
theorem dX6_share_8 : decode cX6_share 8 = .ok (.ifCond .ne 6, 3) := by decide +kernel
theorem dX6_share_11 : decode cX6_share 11 = .ok (.ldc 134, 2) := by decide +kernel
theorem dX6_share_13 : decode cX6_share 13 = .ok (.ireturn, 1) := by decide +kernel
theorem dX6_share_14 : decode cX6_share 14 = .ok (.aload_n 0, 1) := by decide +kernel
theorem dX6_share_15 : decode cX6_share 15 = .ok (.getfield 39, 3) := by decide +kernel
theorem dX6_share_18 : decode cX6_share 18 = .ok (.invokevirtual 145, 3) := by decide +kernel
theorem dX6_share_21 : decode cX6_share 21 = .ok (.aload_n 0, 1) := by decide +kernel
theorem dX6_share_22 : decode cX6_share 22 = .ok (.getfield 39, 3) := by decide +kernel
theorem dX6_share_25 : decode cX6_share 25 = .ok (.iload_n 1, 1) := by decide +kernel
theorem dX6_share_26 : decode cX6_share 26 = .ok (.invokevirtual 187, 3) := by decide +kernel
theorem dX6_share_29 : decode cX6_share 29 = .ok (.ireturn, 1) := by decide +kernel
set_option maxRecDepth 20000 in
theorem ggX6_free_X4_lookAll : GoodIn wsX6_free wsX4_lookAll := goodIn_r _ [10, 11, 12, 13, 14, 15, 16, 9, 17, 18, 19, 20, 21, 22, 23, 24, 25, 26, 27, 28, 29, 30, 31, 32, 33, 34, 35, 36, 37, 38, 39, 40, 41, 42, 43, 44, 45, 46, 47, 48, 49, 50, 51, 52, 53, 54, 55, 56, 57, 58, 59, 60, 61, 62, 63, 64, 65, 66, 67, 68, 69, 70, 71, 72, 73, 74, 99, 100, 101, 102, 103, 104, 105, 106, 85, 86, 87, 88, 89, 90, 91, 92, 93, 94, 95, 96, 97, 98, 107, 108, 109, 110, 111, 112, 113] (by decide +kernel) (by decide +kernel)
set_option maxRecDepth 20000 in
theorem gX6_free_X4_lookAll : GoodIn wsX6_free (wsV RX6 145 RX4 yX4_lookAll wsX4_lookAll) := goodIn_app (goodIn_of _ (by decide +kernel)) ggX6_free_X4_lookAll
set_option maxRecDepth 20000 in
theorem ggX6_free_X2_numberOf : GoodIn wsX6_free wsX2_numberOf := goodIn_r _ [66, 67, 85, 86, 87, 88, 89, 90, 91, 92, 93, 94, 95, 96, 97, 98] (by decide +kernel) (by decide +kernel)
set_option maxRecDepth 20000 in
theorem gX6_free_X2_numberOf : GoodIn wsX6_free (wsV RX6 135 RX2 yX2_numberOf wsX2_numberOf) := goodIn_app (goodIn_of _ (by decide +kernel)) ggX6_free_X2_numberOf
set_option maxRecDepth 20000 in
theorem ggX6_free_X6_placeOf : GoodIn wsX6_free wsX6_placeOf := goodIn_r _ [70] (by decide +kernel) (by decide +kernel)
set_option maxRecDepth 20000 in
theorem gX6_free_X6_placeOf : GoodIn wsX6_free (va_wsS RX6 190 yX6_placeOf wsX6_placeOf) := goodIn_app (goodIn_of _ (by decide +kernel)) ggX6_free_X6_placeOf
theorem dX6_free_0 : decode cX6_free 0 = .ok (.aload_n 0, 1) := by decide +kernel
theorem dX6_free_1 : decode cX6_free 1 = .ok (.getfield 39, 3) := by decide +kernel
theorem dX6_free_4 : decode cX6_free 4 = .ok (.invokevirtual 145, 3) := by decide +kernel
theorem dX6_free_7 : decode cX6_free 7 = .ok (.iload_n 1, 1) := by decide +kernel
theorem dX6_free_8 : decode cX6_free 8 = .ok (.istore_n 2, 1) := by decide +kernel
theorem dX6_free_9 : decode cX6_free 9 = .ok (.iconst 0, 1) := by decide +kernel
theorem dX6_free_10 : decode cX6_free 10 = .ok (.istore_n 3, 1) := by decide +kernel
theorem dX6_free_11 : decode cX6_free 11 = .ok (.iload_n 3, 1) := by decide +kernel
theorem dX6_free_12 : decode cX6_free 12 = .ok (.aload_n 0, 1) := by decide +kernel
theorem dX6_free_13 : decode cX6_free 13 = .ok (.getfield 10, 3) := by decide +kernel
theorem dX6_free_16 : decode cX6_free 16 = .ok (.getfield 105, 3) := by decide +kernel
theorem dX6_free_19 : decode cX6_free 19 = .ok (.if_icmp .ge 68, 3) := by decide +kernel
theorem dX6_free_22 : decode cX6_free 22 = .ok (.iconst 0, 1) := by decide +kernel
theorem dX6_free_23 : decode cX6_free 23 = .ok (.istore 4, 2) := by decide +kernel
theorem dX6_free_25 : decode cX6_free 25 = .ok (.iload 4, 2) := by decide +kernel
theorem dX6_free_27 : decode cX6_free 27 = .ok (.aload_n 0, 1) := by decide +kernel
theorem dX6_free_28 : decode cX6_free 28 = .ok (.getfield 10, 3) := by decide +kernel
theorem dX6_free_31 : decode cX6_free 31 = .ok (.getfield 102, 3) := by decide +kernel
theorem dX6_free_34 : decode cX6_free 34 = .ok (.if_icmp .ge 47, 3) := by decide +kernel
theorem dX6_free_37 : decode cX6_free 37 = .ok (.aload_n 0, 1) := by decide +kernel
theorem dX6_free_38 : decode cX6_free 38 = .ok (.getfield 39, 3) := by decide +kernel
theorem dX6_free_41 : decode cX6_free 41 = .ok (.getfield 148, 3) := by decide +kernel
theorem dX6_free_44 : decode cX6_free 44 = .ok (.aload_n 0, 1) := by decide +kernel
theorem dX6_free_45 : decode cX6_free 45 = .ok (.getfield 10, 3) := by decide +kernel
theorem dX6_free_48 : decode cX6_free 48 = .ok (.iload 4, 2) := by decide +kernel
theorem dX6_free_50 : decode cX6_free 50 = .ok (.iload_n 3, 1) := by decide +kernel
theorem dX6_free_51 : decode cX6_free 51 = .ok (.invokevirtual 135, 3) := by decide +kernel
theorem dX6_free_54 : decode cX6_free 54 = .ok (.iaload, 1) := by decide +kernel
theorem dX6_free_55 : decode cX6_free 55 = .ok (.ifCond .eq 6, 3) := by decide +kernel
theorem dX6_free_58 : decode cX6_free 58 = .ok (.goto 17, 3) := by decide +kernel
theorem dX6_free_61 : decode cX6_free 61 = .ok (.iload_n 2, 1) := by decide +kernel
theorem dX6_free_62 : decode cX6_free 62 = .ok (.ifCond .ne 10, 3) := by decide +kernel
theorem dX6_free_65 : decode cX6_free 65 = .ok (.iload 4, 2) := by decide +kernel
theorem dX6_free_67 : decode cX6_free 67 = .ok (.iload_n 3, 1) := by decide +kernel
theorem dX6_free_68 : decode cX6_free 68 = .ok (.invokestatic 190, 3) := by decide +kernel
theorem dX6_free_71 : decode cX6_free 71 = .ok (.ireturn, 1) := by decide +kernel
theorem dX6_free_72 : decode cX6_free 72 = .ok (.iinc 2 (-1), 3) := by decide +kernel
theorem dX6_free_75 : decode cX6_free 75 = .ok (.iinc 4 1, 3) := by decide +kernel
theorem dX6_free_78 : decode cX6_free 78 = .ok (.goto (-53), 3) := by decide +kernel
theorem dX6_free_81 : decode cX6_free 81 = .ok (.iinc 3 1, 3) := by decide +kernel
theorem dX6_free_84 : decode cX6_free 84 = .ok (.goto (-73), 3) := by decide +kernel
theorem dX6_free_87 : decode cX6_free 87 = .ok (.iconst (-1), 1) := by decide +kernel
theorem dX6_free_88 : decode cX6_free 88 = .ok (.ireturn, 1) := by decide +kernel
theorem dX6_law_0 : decode cX6_law 0 = .ok (.iload_n 1, 1) := by decide +kernel
theorem dX6_law_1 : decode cX6_law 1 = .ok (.ifCond .lt 8, 3) := by decide +kernel
theorem dX6_law_4 : decode cX6_law 4 = .ok (.iload_n 1, 1) := by decide +kernel
theorem dX6_law_5 : decode cX6_law 5 = .ok (.iconst 2, 1) := by decide +kernel
theorem dX6_law_6 : decode cX6_law 6 = .ok (.if_icmp .le 6, 3) := by decide +kernel
theorem dX6_law_9 : decode cX6_law 9 = .ok (.ldc 61, 2) := by decide +kernel
theorem dX6_law_11 : decode cX6_law 11 = .ok (.ireturn, 1) := by decide +kernel
theorem dX6_law_12 : decode cX6_law 12 = .ok (.aload_n 0, 1) := by decide +kernel
theorem dX6_law_13 : decode cX6_law 13 = .ok (.getfield 26, 3) := by decide +kernel
theorem dX6_law_16 : decode cX6_law 16 = .ok (.getfield 111, 3) := by decide +kernel
theorem dX6_law_19 : decode cX6_law 19 = .ok (.istore_n 2, 1) := by decide +kernel
theorem dX6_law_20 : decode cX6_law 20 = .ok (.aload_n 0, 1) := by decide +kernel
theorem dX6_law_21 : decode cX6_law 21 = .ok (.getfield 26, 3) := by decide +kernel
theorem dX6_law_24 : decode cX6_law 24 = .ok (.iload_n 1, 1) := by decide +kernel
theorem dX6_law_25 : decode cX6_law 25 = .ok (.putfield 111, 3) := by decide +kernel
theorem dX6_law_28 : decode cX6_law 28 = .ok (.iload_n 2, 1) := by decide +kernel
theorem dX6_law_29 : decode cX6_law 29 = .ok (.ireturn, 1) := by decide +kernel
set_option maxRecDepth 20000 in
theorem ggX6_build_X2_hasMan : GoodIn wsX6_build wsX2_hasMan := goodIn_r _ [11, 12, 35, 36, 37, 38, 39, 40, 41, 42, 43, 44, 45, 46, 47, 48] (by decide +kernel) (by decide +kernel)
set_option maxRecDepth 20000 in
theorem gX6_build_X2_hasMan : GoodIn wsX6_build (wsV RX6 154 RX2 yX2_hasMan wsX2_hasMan) := goodIn_app (goodIn_of _ (by decide +kernel)) ggX6_build_X2_hasMan
set_option maxRecDepth 20000 in
theorem ggX6_build_X5_addStorey : GoodIn wsX6_build wsX5_addStorey := goodIn_r _ [17, 18, 19, 28, 29, 30, 31, 32, 33, 34] (by decide +kernel) (by decide +kernel)
set_option maxRecDepth 20000 in
theorem gX6_build_X5_addStorey : GoodIn wsX6_build (wsV RX6 194 RX5 yX5_addStorey wsX5_addStorey) := goodIn_app (goodIn_of _ (by decide +kernel)) ggX6_build_X5_addStorey
theorem dX6_build_0 : decode cX6_build 0 = .ok (.aload_n 0, 1) := by decide +kernel
theorem dX6_build_1 : decode cX6_build 1 = .ok (.getfield 10, 3) := by decide +kernel
theorem dX6_build_4 : decode cX6_build 4 = .ok (.iload_n 1, 1) := by decide +kernel
theorem dX6_build_5 : decode cX6_build 5 = .ok (.invokevirtual 154, 3) := by decide +kernel
theorem dX6_build_8 : decode cX6_build 8 = .ok (.ifCond .ne 6, 3) := by decide +kernel
theorem dX6_build_11 : decode cX6_build 11 = .ok (.ldc 134, 2) := by decide +kernel
theorem dX6_build_13 : decode cX6_build 13 = .ok (.ireturn, 1) := by decide +kernel
theorem dX6_build_14 : decode cX6_build 14 = .ok (.aload_n 0, 1) := by decide +kernel
theorem dX6_build_15 : decode cX6_build 15 = .ok (.getfield 26, 3) := by decide +kernel
theorem dX6_build_18 : decode cX6_build 18 = .ok (.getfield 164, 3) := by decide +kernel
theorem dX6_build_21 : decode cX6_build 21 = .ok (.iload_n 1, 1) := by decide +kernel
theorem dX6_build_22 : decode cX6_build 22 = .ok (.iaload, 1) := by decide +kernel
theorem dX6_build_23 : decode cX6_build 23 = .ok (.bipush 9, 2) := by decide +kernel
theorem dX6_build_25 : decode cX6_build 25 = .ok (.if_icmp .lt 6, 3) := by decide +kernel
theorem dX6_build_28 : decode cX6_build 28 = .ok (.ldc 193, 2) := by decide +kernel
theorem dX6_build_30 : decode cX6_build 30 = .ok (.ireturn, 1) := by decide +kernel
theorem dX6_build_31 : decode cX6_build 31 = .ok (.aload_n 0, 1) := by decide +kernel
theorem dX6_build_32 : decode cX6_build 32 = .ok (.getfield 26, 3) := by decide +kernel
theorem dX6_build_35 : decode cX6_build 35 = .ok (.iload_n 1, 1) := by decide +kernel
theorem dX6_build_36 : decode cX6_build 36 = .ok (.aload_n 0, 1) := by decide +kernel
theorem dX6_build_37 : decode cX6_build 37 = .ok (.getfield 10, 3) := by decide +kernel
theorem dX6_build_40 : decode cX6_build 40 = .ok (.getfield 124, 3) := by decide +kernel
theorem dX6_build_43 : decode cX6_build 43 = .ok (.invokevirtual 194, 3) := by decide +kernel
theorem dX6_build_46 : decode cX6_build 46 = .ok (.aload_n 0, 1) := by decide +kernel
theorem dX6_build_47 : decode cX6_build 47 = .ok (.getfield 26, 3) := by decide +kernel
theorem dX6_build_50 : decode cX6_build 50 = .ok (.getfield 164, 3) := by decide +kernel
theorem dX6_build_53 : decode cX6_build 53 = .ok (.iload_n 1, 1) := by decide +kernel
theorem dX6_build_54 : decode cX6_build 54 = .ok (.iaload, 1) := by decide +kernel
theorem dX6_build_55 : decode cX6_build 55 = .ok (.ireturn, 1) := by decide +kernel
set_option maxRecDepth 20000 in
theorem ggX6_plant_X2_hasCell : GoodIn wsX6_plant wsX2_hasCell := goodIn_r _ [10, 11, 12, 32, 33, 34, 35, 36, 37, 38, 39, 40, 41, 42, 43, 44, 45] (by decide +kernel) (by decide +kernel)
set_option maxRecDepth 20000 in
theorem gX6_plant_X2_hasCell : GoodIn wsX6_plant (wsV RX6 130 RX2 yX2_hasCell wsX2_hasCell) := goodIn_app (goodIn_of _ (by decide +kernel)) ggX6_plant_X2_hasCell
set_option maxRecDepth 20000 in
theorem ggX6_plant_X2_numberOf : GoodIn wsX6_plant wsX2_numberOf := goodIn_r _ [16, 11, 32, 33, 34, 35, 36, 37, 38, 39, 40, 41, 42, 43, 44, 45] (by decide +kernel) (by decide +kernel)
set_option maxRecDepth 20000 in
theorem gX6_plant_X2_numberOf : GoodIn wsX6_plant (wsV RX6 135 RX2 yX2_numberOf wsX2_numberOf) := goodIn_app (goodIn_of _ (by decide +kernel)) ggX6_plant_X2_numberOf
theorem dX6_plant_0 : decode cX6_plant 0 = .ok (.aload_n 0, 1) := by decide +kernel
theorem dX6_plant_1 : decode cX6_plant 1 = .ok (.getfield 10, 3) := by decide +kernel
theorem dX6_plant_4 : decode cX6_plant 4 = .ok (.iload_n 1, 1) := by decide +kernel
theorem dX6_plant_5 : decode cX6_plant 5 = .ok (.iload_n 2, 1) := by decide +kernel
theorem dX6_plant_6 : decode cX6_plant 6 = .ok (.invokevirtual 130, 3) := by decide +kernel
theorem dX6_plant_9 : decode cX6_plant 9 = .ok (.ifCond .ne 6, 3) := by decide +kernel
theorem dX6_plant_12 : decode cX6_plant 12 = .ok (.ldc 134, 2) := by decide +kernel
theorem dX6_plant_14 : decode cX6_plant 14 = .ok (.ireturn, 1) := by decide +kernel
theorem dX6_plant_15 : decode cX6_plant 15 = .ok (.iload_n 3, 1) := by decide +kernel
theorem dX6_plant_16 : decode cX6_plant 16 = .ok (.ifCond .lt 9, 3) := by decide +kernel
theorem dX6_plant_19 : decode cX6_plant 19 = .ok (.iload_n 3, 1) := by decide +kernel
theorem dX6_plant_20 : decode cX6_plant 20 = .ok (.bipush 99, 2) := by decide +kernel
theorem dX6_plant_22 : decode cX6_plant 22 = .ok (.if_icmp .le 6, 3) := by decide +kernel
theorem dX6_plant_25 : decode cX6_plant 25 = .ok (.ldc 61, 2) := by decide +kernel
theorem dX6_plant_27 : decode cX6_plant 27 = .ok (.ireturn, 1) := by decide +kernel
theorem dX6_plant_28 : decode cX6_plant 28 = .ok (.aload_n 0, 1) := by decide +kernel
theorem dX6_plant_29 : decode cX6_plant 29 = .ok (.getfield 10, 3) := by decide +kernel
theorem dX6_plant_32 : decode cX6_plant 32 = .ok (.iload_n 1, 1) := by decide +kernel
theorem dX6_plant_33 : decode cX6_plant 33 = .ok (.iload_n 2, 1) := by decide +kernel
theorem dX6_plant_34 : decode cX6_plant 34 = .ok (.invokevirtual 135, 3) := by decide +kernel
theorem dX6_plant_37 : decode cX6_plant 37 = .ok (.istore 4, 2) := by decide +kernel
theorem dX6_plant_39 : decode cX6_plant 39 = .ok (.aload_n 0, 1) := by decide +kernel
theorem dX6_plant_40 : decode cX6_plant 40 = .ok (.getfield 26, 3) := by decide +kernel
theorem dX6_plant_43 : decode cX6_plant 43 = .ok (.getfield 139, 3) := by decide +kernel
theorem dX6_plant_46 : decode cX6_plant 46 = .ok (.iload 4, 2) := by decide +kernel
theorem dX6_plant_48 : decode cX6_plant 48 = .ok (.iaload, 1) := by decide +kernel
theorem dX6_plant_49 : decode cX6_plant 49 = .ok (.istore 5, 2) := by decide +kernel
theorem dX6_plant_51 : decode cX6_plant 51 = .ok (.aload_n 0, 1) := by decide +kernel
theorem dX6_plant_52 : decode cX6_plant 52 = .ok (.getfield 26, 3) := by decide +kernel
theorem dX6_plant_55 : decode cX6_plant 55 = .ok (.getfield 139, 3) := by decide +kernel
theorem dX6_plant_58 : decode cX6_plant 58 = .ok (.iload 4, 2) := by decide +kernel
theorem dX6_plant_60 : decode cX6_plant 60 = .ok (.iload_n 3, 1) := by decide +kernel
theorem dX6_plant_61 : decode cX6_plant 61 = .ok (.iastore, 1) := by decide +kernel
theorem dX6_plant_62 : decode cX6_plant 62 = .ok (.iload 5, 2) := by decide +kernel
theorem dX6_plant_64 : decode cX6_plant 64 = .ok (.ireturn, 1) := by decide +kernel
set_option maxRecDepth 20000 in
theorem ggX6_day_X2_cells : GoodIn wsX6_day wsX2_cells := goodIn_r _ [12, 13, 14, 152, 153, 154, 155, 156, 157, 158, 159, 160, 161, 162, 163, 164, 165] (by decide +kernel) (by decide +kernel)
set_option maxRecDepth 20000 in
theorem gX6_day_X2_cells : GoodIn wsX6_day (wsV RX6 95 RX2 yX2_cells wsX2_cells) := goodIn_app (goodIn_of _ (by decide +kernel)) ggX6_day_X2_cells
set_option maxRecDepth 20000 in
theorem ggX6_day_X4_lookAll : GoodIn wsX6_day wsX4_lookAll := goodIn_r _ [19, 20, 21, 22, 23, 24, 25, 18, 26, 27, 28, 29, 30, 31, 32, 33, 11, 34, 35, 36, 37, 38, 39, 40, 41, 42, 43, 44, 45, 46, 47, 48, 49, 50, 51, 52, 53, 54, 55, 56, 57, 58, 59, 60, 61, 62, 63, 64, 65, 66, 67, 68, 69, 70, 71, 72, 73, 74, 13, 75, 76, 77, 78, 79, 80, 81, 137, 138, 139, 140, 141, 142, 143, 144, 152, 153, 154, 155, 156, 157, 158, 159, 160, 161, 162, 163, 164, 165, 145, 146, 147, 148, 149, 150, 151] (by decide +kernel) (by decide +kernel)
set_option maxRecDepth 20000 in
theorem gX6_day_X4_lookAll : GoodIn wsX6_day (wsV RX6 145 RX4 yX4_lookAll wsX4_lookAll) := goodIn_app (goodIn_of _ (by decide +kernel)) ggX6_day_X4_lookAll
set_option maxRecDepth 20000 in
theorem ggX6_day_X4_countShares : GoodIn wsX6_day wsX4_countShares := goodIn_r _ [85, 86, 21, 29, 30, 87, 88, 89, 18, 90, 20, 27, 91, 71, 72, 73, 11, 74, 13, 92, 93, 94, 95, 22, 47, 52, 53, 50, 54, 96, 76, 97, 98, 99, 100, 101, 60, 61, 62, 63, 64, 65, 66, 102, 103, 104, 105, 106, 107, 108, 109, 110, 111, 112, 113, 114, 115, 116, 117, 137, 138, 139, 140, 141, 142, 143, 144, 152, 153, 154, 155, 156, 157, 158, 159, 160, 161, 162, 163, 164, 165, 145, 146, 147, 148, 149, 150, 151] (by decide +kernel) (by decide +kernel)
set_option maxRecDepth 20000 in
theorem gX6_day_X4_countShares : GoodIn wsX6_day (wsV RX6 198 RX4 yX4_countShares wsX4_countShares) := goodIn_app (goodIn_of _ (by decide +kernel)) ggX6_day_X4_countShares
set_option maxRecDepth 20000 in
theorem ggX6_day_X5_earn : GoodIn wsX6_day wsX5_earn := goodIn_r _ [122, 123, 145, 146, 147, 148, 149, 150, 151] (by decide +kernel) (by decide +kernel)
set_option maxRecDepth 20000 in
theorem gX6_day_X5_earn : GoodIn wsX6_day (wsV RX6 204 RX5 yX5_earn wsX5_earn) := goodIn_app (goodIn_of _ (by decide +kernel)) ggX6_day_X5_earn
set_option maxRecDepth 20000 in
theorem ggX6_day_X6_turnDay : GoodIn wsX6_day wsX6_turnDay := goodIn_r _ [127, 2, 5, 7, 4, 128, 32, 33, 11, 34, 35, 36, 37, 38, 15, 16, 17, 18, 19, 20, 21, 22, 23, 24, 25, 26, 27, 28, 29, 30, 31, 39, 40, 41, 42, 43, 44, 45, 46, 47, 48, 49, 50, 51, 52, 53, 54, 55, 56, 57, 58, 59, 60, 61, 62, 63, 64, 65, 66, 67, 68, 69, 70, 71, 72, 73, 74, 13, 75, 76, 77, 78, 79, 80, 81, 129, 130, 131, 132, 133, 134, 135, 136, 145, 146, 147, 148, 149, 150, 151, 152, 153, 154, 155, 156, 157, 158, 159, 160, 161, 162, 163, 164, 165, 137, 138, 139, 140, 141, 142, 143, 144] (by decide +kernel) (by decide +kernel)
set_option maxRecDepth 20000 in
theorem gX6_day_X6_turnDay : GoodIn wsX6_day (wsV RX6 208 RX6 yX6_turnDay wsX6_turnDay) := goodIn_app (goodIn_of _ (by decide +kernel)) ggX6_day_X6_turnDay
theorem dX6_day_0 : decode cX6_day 0 = .ok (.iload_n 1, 1) := by decide +kernel
theorem dX6_day_1 : decode cX6_day 1 = .ok (.iconst 1, 1) := by decide +kernel
theorem dX6_day_2 : decode cX6_day 2 = .ok (.if_icmp .lt 9, 3) := by decide +kernel
theorem dX6_day_5 : decode cX6_day 5 = .ok (.iload_n 1, 1) := by decide +kernel
theorem dX6_day_6 : decode cX6_day 6 = .ok (.bipush 99, 2) := by decide +kernel
theorem dX6_day_8 : decode cX6_day 8 = .ok (.if_icmp .le 6, 3) := by decide +kernel
theorem dX6_day_11 : decode cX6_day 11 = .ok (.ldc 61, 2) := by decide +kernel
theorem dX6_day_13 : decode cX6_day 13 = .ok (.ireturn, 1) := by decide +kernel
theorem dX6_day_14 : decode cX6_day 14 = .ok (.aload_n 0, 1) := by decide +kernel
theorem dX6_day_15 : decode cX6_day 15 = .ok (.getfield 10, 3) := by decide +kernel
theorem dX6_day_18 : decode cX6_day 18 = .ok (.invokevirtual 95, 3) := by decide +kernel
theorem dX6_day_21 : decode cX6_day 21 = .ok (.ifCond .ne 6, 3) := by decide +kernel
theorem dX6_day_24 : decode cX6_day 24 = .ok (.ldc 193, 2) := by decide +kernel
theorem dX6_day_26 : decode cX6_day 26 = .ok (.ireturn, 1) := by decide +kernel
theorem dX6_day_27 : decode cX6_day 27 = .ok (.aload_n 0, 1) := by decide +kernel
theorem dX6_day_28 : decode cX6_day 28 = .ok (.getfield 39, 3) := by decide +kernel
theorem dX6_day_31 : decode cX6_day 31 = .ok (.invokevirtual 145, 3) := by decide +kernel
theorem dX6_day_34 : decode cX6_day 34 = .ok (.aload_n 0, 1) := by decide +kernel
theorem dX6_day_35 : decode cX6_day 35 = .ok (.getfield 39, 3) := by decide +kernel
theorem dX6_day_38 : decode cX6_day 38 = .ok (.invokevirtual 198, 3) := by decide +kernel
theorem dX6_day_41 : decode cX6_day 41 = .ok (.iconst 0, 1) := by decide +kernel
theorem dX6_day_42 : decode cX6_day 42 = .ok (.istore_n 2, 1) := by decide +kernel
theorem dX6_day_43 : decode cX6_day 43 = .ok (.iload_n 2, 1) := by decide +kernel
theorem dX6_day_44 : decode cX6_day 44 = .ok (.iload_n 1, 1) := by decide +kernel
theorem dX6_day_45 : decode cX6_day 45 = .ok (.if_icmp .ge 37, 3) := by decide +kernel
theorem dX6_day_48 : decode cX6_day 48 = .ok (.aload_n 0, 1) := by decide +kernel
theorem dX6_day_49 : decode cX6_day 49 = .ok (.getfield 26, 3) := by decide +kernel
theorem dX6_day_52 : decode cX6_day 52 = .ok (.aload_n 0, 1) := by decide +kernel
theorem dX6_day_53 : decode cX6_day 53 = .ok (.getfield 39, 3) := by decide +kernel
theorem dX6_day_56 : decode cX6_day 56 = .ok (.getfield 201, 3) := by decide +kernel
theorem dX6_day_59 : decode cX6_day 59 = .ok (.invokevirtual 204, 3) := by decide +kernel
theorem dX6_day_62 : decode cX6_day 62 = .ok (.aload_n 0, 1) := by decide +kernel
theorem dX6_day_63 : decode cX6_day 63 = .ok (.invokevirtual 208, 3) := by decide +kernel
theorem dX6_day_66 : decode cX6_day 66 = .ok (.ifCond .eq 10, 3) := by decide +kernel
theorem dX6_day_69 : decode cX6_day 69 = .ok (.aload_n 0, 1) := by decide +kernel
theorem dX6_day_70 : decode cX6_day 70 = .ok (.getfield 39, 3) := by decide +kernel
theorem dX6_day_73 : decode cX6_day 73 = .ok (.invokevirtual 198, 3) := by decide +kernel
theorem dX6_day_76 : decode cX6_day 76 = .ok (.iinc 2 1, 3) := by decide +kernel
theorem dX6_day_79 : decode cX6_day 79 = .ok (.goto (-36), 3) := by decide +kernel
theorem dX6_day_82 : decode cX6_day 82 = .ok (.aload_n 0, 1) := by decide +kernel
theorem dX6_day_83 : decode cX6_day 83 = .ok (.getfield 26, 3) := by decide +kernel
theorem dX6_day_86 : decode cX6_day 86 = .ok (.getfield 114, 3) := by decide +kernel
theorem dX6_day_89 : decode cX6_day 89 = .ok (.ireturn, 1) := by decide +kernel
set_option maxRecDepth 20000 in
theorem ggX6_drift_X2_cells : GoodIn wsX6_drift wsX2_cells := goodIn_r _ [13, 14, 15, 167, 168, 169, 170, 171, 172, 173, 174, 175, 176, 177, 178, 179, 180] (by decide +kernel) (by decide +kernel)
set_option maxRecDepth 20000 in
theorem gX6_drift_X2_cells : GoodIn wsX6_drift (wsV RX6 95 RX2 yX2_cells wsX2_cells) := goodIn_app (goodIn_of _ (by decide +kernel)) ggX6_drift_X2_cells
set_option maxRecDepth 20000 in
theorem ggX6_drift_X4_lookAll : GoodIn wsX6_drift wsX4_lookAll := goodIn_r _ [20, 21, 22, 23, 24, 25, 26, 19, 27, 28, 29, 30, 31, 32, 33, 34, 12, 35, 36, 37, 38, 39, 40, 41, 42, 43, 44, 45, 46, 47, 48, 49, 50, 51, 52, 53, 54, 55, 56, 57, 58, 59, 60, 61, 62, 63, 64, 65, 66, 67, 68, 69, 70, 71, 72, 73, 74, 75, 14, 76, 77, 78, 79, 80, 81, 82, 181, 182, 183, 184, 185, 186, 187, 188, 167, 168, 169, 170, 171, 172, 173, 174, 175, 176, 177, 178, 179, 180, 189, 190, 191, 192, 193, 194, 195] (by decide +kernel) (by decide +kernel)
set_option maxRecDepth 20000 in
theorem gX6_drift_X4_lookAll : GoodIn wsX6_drift (wsV RX6 145 RX4 yX4_lookAll wsX4_lookAll) := goodIn_app (goodIn_of _ (by decide +kernel)) ggX6_drift_X4_lookAll
set_option maxRecDepth 20000 in
theorem ggX6_drift_X6_actByDraws : GoodIn wsX6_drift wsX6_actByDraws := goodIn_r _ [86, 6, 2, 3, 87, 88, 89, 5, 90, 91, 92, 54, 51, 55, 93, 94, 95, 96, 97, 98, 99, 100, 101, 102, 103, 104, 105, 106, 107, 108, 109, 25, 26, 19, 27, 22, 28, 29, 30, 31, 32, 33, 34, 12, 35, 36, 37, 38, 39, 40, 41, 42, 43, 44, 45, 46, 47, 48, 49, 50, 52, 53, 56, 57, 58, 59, 60, 61, 62, 63, 64, 65, 66, 67, 68, 69, 70, 71, 72, 73, 74, 75, 14, 76, 77, 78, 79, 80, 81, 82, 21, 9, 10, 11, 13, 15, 110, 111, 112, 113, 23, 159, 160, 161, 162, 163, 164, 165, 166, 167, 168, 169, 170, 171, 172, 173, 174, 175, 176, 177, 178, 179, 180, 189, 190, 191, 192, 193, 194, 195, 181, 182, 183, 184, 185, 186, 187, 188] (by decide +kernel) (by decide +kernel)
set_option maxRecDepth 20000 in
theorem gX6_drift_X6_actByDraws : GoodIn wsX6_drift (wsV RX6 211 RX6 yX6_actByDraws wsX6_actByDraws) := goodIn_app (goodIn_of _ (by decide +kernel)) ggX6_drift_X6_actByDraws
set_option maxRecDepth 20000 in
theorem ggX6_drift_X4_countShares : GoodIn wsX6_drift wsX4_countShares := goodIn_r _ [117, 118, 22, 30, 31, 119, 120, 121, 19, 122, 21, 28, 123, 72, 73, 74, 12, 75, 14, 124, 125, 126, 127, 23, 48, 53, 54, 51, 55, 128, 77, 129, 130, 131, 132, 133, 61, 62, 63, 64, 65, 66, 67, 134, 135, 136, 137, 138, 139, 140, 141, 142, 143, 144, 145, 146, 147, 148, 149, 181, 182, 183, 184, 185, 186, 187, 188, 167, 168, 169, 170, 171, 172, 173, 174, 175, 176, 177, 178, 179, 180, 189, 190, 191, 192, 193, 194, 195] (by decide +kernel) (by decide +kernel)
set_option maxRecDepth 20000 in
theorem gX6_drift_X4_countShares : GoodIn wsX6_drift (wsV RX6 198 RX4 yX4_countShares wsX4_countShares) := goodIn_app (goodIn_of _ (by decide +kernel)) ggX6_drift_X4_countShares
set_option maxRecDepth 20000 in
theorem ggX6_drift_X5_earn : GoodIn wsX6_drift wsX5_earn := goodIn_r _ [153, 108, 189, 190, 191, 192, 193, 194, 195] (by decide +kernel) (by decide +kernel)
set_option maxRecDepth 20000 in
theorem gX6_drift_X5_earn : GoodIn wsX6_drift (wsV RX6 204 RX5 yX5_earn wsX5_earn) := goodIn_app (goodIn_of _ (by decide +kernel)) ggX6_drift_X5_earn
set_option maxRecDepth 20000 in
theorem ggX6_drift_X6_turnDay : GoodIn wsX6_drift wsX6_turnDay := goodIn_r _ [157, 2, 6, 8, 5, 158, 33, 34, 12, 35, 36, 37, 38, 39, 16, 17, 18, 19, 20, 21, 22, 23, 24, 25, 26, 27, 28, 29, 30, 31, 32, 40, 41, 42, 43, 44, 45, 46, 47, 48, 49, 50, 51, 52, 53, 54, 55, 56, 57, 58, 59, 60, 61, 62, 63, 64, 65, 66, 67, 68, 69, 70, 71, 72, 73, 74, 75, 14, 76, 77, 78, 79, 80, 81, 82, 159, 160, 161, 162, 163, 164, 165, 166, 189, 190, 191, 192, 193, 194, 195, 167, 168, 169, 170, 171, 172, 173, 174, 175, 176, 177, 178, 179, 180, 181, 182, 183, 184, 185, 186, 187, 188] (by decide +kernel) (by decide +kernel)
set_option maxRecDepth 20000 in
theorem gX6_drift_X6_turnDay : GoodIn wsX6_drift (wsV RX6 208 RX6 yX6_turnDay wsX6_turnDay) := goodIn_app (goodIn_of _ (by decide +kernel)) ggX6_drift_X6_turnDay
theorem dX6_drift_0 : decode cX6_drift 0 = .ok (.iload_n 1, 1) := by decide +kernel
theorem dX6_drift_1 : decode cX6_drift 1 = .ok (.iconst 1, 1) := by decide +kernel
theorem dX6_drift_2 : decode cX6_drift 2 = .ok (.if_icmp .lt 9, 3) := by decide +kernel
theorem dX6_drift_5 : decode cX6_drift 5 = .ok (.iload_n 1, 1) := by decide +kernel
theorem dX6_drift_6 : decode cX6_drift 6 = .ok (.bipush 99, 2) := by decide +kernel
theorem dX6_drift_8 : decode cX6_drift 8 = .ok (.if_icmp .le 6, 3) := by decide +kernel
theorem dX6_drift_11 : decode cX6_drift 11 = .ok (.ldc 61, 2) := by decide +kernel
theorem dX6_drift_13 : decode cX6_drift 13 = .ok (.ireturn, 1) := by decide +kernel
theorem dX6_drift_14 : decode cX6_drift 14 = .ok (.aload_n 0, 1) := by decide +kernel
theorem dX6_drift_15 : decode cX6_drift 15 = .ok (.getfield 10, 3) := by decide +kernel
theorem dX6_drift_18 : decode cX6_drift 18 = .ok (.invokevirtual 95, 3) := by decide +kernel
theorem dX6_drift_21 : decode cX6_drift 21 = .ok (.ifCond .eq 13, 3) := by decide +kernel
theorem dX6_drift_24 : decode cX6_drift 24 = .ok (.aload_n 0, 1) := by decide +kernel
theorem dX6_drift_25 : decode cX6_drift 25 = .ok (.getfield 10, 3) := by decide +kernel
theorem dX6_drift_28 : decode cX6_drift 28 = .ok (.getfield 108, 3) := by decide +kernel
theorem dX6_drift_31 : decode cX6_drift 31 = .ok (.ifCond .ne 6, 3) := by decide +kernel
theorem dX6_drift_34 : decode cX6_drift 34 = .ok (.ldc 193, 2) := by decide +kernel
theorem dX6_drift_36 : decode cX6_drift 36 = .ok (.ireturn, 1) := by decide +kernel
theorem dX6_drift_37 : decode cX6_drift 37 = .ok (.aload_n 0, 1) := by decide +kernel
theorem dX6_drift_38 : decode cX6_drift 38 = .ok (.getfield 39, 3) := by decide +kernel
theorem dX6_drift_41 : decode cX6_drift 41 = .ok (.invokevirtual 145, 3) := by decide +kernel
theorem dX6_drift_44 : decode cX6_drift 44 = .ok (.iconst 0, 1) := by decide +kernel
theorem dX6_drift_45 : decode cX6_drift 45 = .ok (.istore_n 2, 1) := by decide +kernel
theorem dX6_drift_46 : decode cX6_drift 46 = .ok (.iload_n 2, 1) := by decide +kernel
theorem dX6_drift_47 : decode cX6_drift 47 = .ok (.iload_n 1, 1) := by decide +kernel
theorem dX6_drift_48 : decode cX6_drift 48 = .ok (.if_icmp .ge 39, 3) := by decide +kernel
theorem dX6_drift_51 : decode cX6_drift 51 = .ok (.aload_n 0, 1) := by decide +kernel
theorem dX6_drift_52 : decode cX6_drift 52 = .ok (.invokevirtual 211, 3) := by decide +kernel
theorem dX6_drift_55 : decode cX6_drift 55 = .ok (.aload_n 0, 1) := by decide +kernel
theorem dX6_drift_56 : decode cX6_drift 56 = .ok (.getfield 39, 3) := by decide +kernel
theorem dX6_drift_59 : decode cX6_drift 59 = .ok (.invokevirtual 198, 3) := by decide +kernel
theorem dX6_drift_62 : decode cX6_drift 62 = .ok (.aload_n 0, 1) := by decide +kernel
theorem dX6_drift_63 : decode cX6_drift 63 = .ok (.getfield 26, 3) := by decide +kernel
theorem dX6_drift_66 : decode cX6_drift 66 = .ok (.aload_n 0, 1) := by decide +kernel
theorem dX6_drift_67 : decode cX6_drift 67 = .ok (.getfield 39, 3) := by decide +kernel
theorem dX6_drift_70 : decode cX6_drift 70 = .ok (.getfield 201, 3) := by decide +kernel
theorem dX6_drift_73 : decode cX6_drift 73 = .ok (.invokevirtual 204, 3) := by decide +kernel
theorem dX6_drift_76 : decode cX6_drift 76 = .ok (.aload_n 0, 1) := by decide +kernel
theorem dX6_drift_77 : decode cX6_drift 77 = .ok (.invokevirtual 208, 3) := by decide +kernel
theorem dX6_drift_80 : decode cX6_drift 80 = .ok (.pop, 1) := by decide +kernel
theorem dX6_drift_81 : decode cX6_drift 81 = .ok (.iinc 2 1, 3) := by decide +kernel
theorem dX6_drift_84 : decode cX6_drift 84 = .ok (.goto (-38), 3) := by decide +kernel
theorem dX6_drift_87 : decode cX6_drift 87 = .ok (.aload_n 0, 1) := by decide +kernel
theorem dX6_drift_88 : decode cX6_drift 88 = .ok (.getfield 26, 3) := by decide +kernel
theorem dX6_drift_91 : decode cX6_drift 91 = .ok (.getfield 114, 3) := by decide +kernel
theorem dX6_drift_94 : decode cX6_drift 94 = .ok (.ireturn, 1) := by decide +kernel
set_option maxRecDepth 20000 in
theorem ggX6_begin_X5_restart : GoodIn wsX6_begin wsX5_restart := goodIn_r _ [8, 9, 10, 11, 12, 13, 14, 15, 16, 17, 18, 27, 28, 29, 30, 31, 32, 33, 34, 35, 36, 37, 38, 39, 40, 41, 42, 43, 44, 45, 46, 47] (by decide +kernel) (by decide +kernel)
set_option maxRecDepth 20000 in
theorem gX6_begin_X5_restart : GoodIn wsX6_begin (wsV RX6 85 RX5 yX5_restart wsX5_restart) := goodIn_app (goodIn_of _ (by decide +kernel)) ggX6_begin_X5_restart
theorem dX6_begin_0 : decode cX6_begin 0 = .ok (.aload_n 0, 1) := by decide +kernel
theorem dX6_begin_1 : decode cX6_begin 1 = .ok (.getfield 26, 3) := by decide +kernel
theorem dX6_begin_4 : decode cX6_begin 4 = .ok (.getfield 114, 3) := by decide +kernel
theorem dX6_begin_7 : decode cX6_begin 7 = .ok (.istore_n 1, 1) := by decide +kernel
theorem dX6_begin_8 : decode cX6_begin 8 = .ok (.aload_n 0, 1) := by decide +kernel
theorem dX6_begin_9 : decode cX6_begin 9 = .ok (.getfield 26, 3) := by decide +kernel
theorem dX6_begin_12 : decode cX6_begin 12 = .ok (.aload_n 0, 1) := by decide +kernel
theorem dX6_begin_13 : decode cX6_begin 13 = .ok (.getfield 10, 3) := by decide +kernel
theorem dX6_begin_16 : decode cX6_begin 16 = .ok (.invokevirtual 85, 3) := by decide +kernel
theorem dX6_begin_19 : decode cX6_begin 19 = .ok (.iload_n 1, 1) := by decide +kernel
theorem dX6_begin_20 : decode cX6_begin 20 = .ok (.ireturn, 1) := by decide +kernel
set_option maxRecDepth 20000 in
theorem ggX6_tree_X2_hasMan : GoodIn wsX6_tree wsX2_hasMan := goodIn_r _ [12, 13, 153, 154, 155, 156, 157, 158, 159, 160, 161, 162, 163, 164, 165, 166] (by decide +kernel) (by decide +kernel)
set_option maxRecDepth 20000 in
theorem gX6_tree_X2_hasMan : GoodIn wsX6_tree (wsV RX6 154 RX2 yX2_hasMan wsX2_hasMan) := goodIn_app (goodIn_of _ (by decide +kernel)) ggX6_tree_X2_hasMan
set_option maxRecDepth 20000 in
theorem ggX6_tree_X4_findTree : GoodIn wsX6_tree wsX4_findTree := goodIn_r _ [18, 19, 20, 21, 22, 23, 24, 25, 26, 27, 28, 29, 30, 31, 17, 32, 33, 34, 35, 36, 37, 38, 39, 40, 41, 42, 11, 43, 44, 45, 46, 47, 48, 49, 50, 51, 52, 53, 54, 55, 56, 57, 58, 59, 60, 61, 62, 63, 64, 65, 66, 67, 68, 69, 70, 71, 72, 73, 74, 75, 76, 77, 78, 79, 80, 81, 82, 83, 84, 85, 86, 87, 88, 89, 90, 91, 92, 93, 94, 95, 96, 97, 98, 99, 100, 101, 102, 103, 104, 105, 106, 107, 108, 109, 110, 111, 112, 113, 114, 115, 116, 117, 118, 119, 120, 121, 122, 123, 124, 125, 126, 127, 128, 129, 130, 131, 132, 133, 134, 135, 136, 145, 146, 147, 148, 149, 150, 151, 152, 153, 154, 155, 156, 157, 158, 159, 160, 161, 162, 163, 164, 165, 166, 167, 168, 169, 170, 171, 172, 173] (by decide +kernel) (by decide +kernel)
set_option maxRecDepth 20000 in
theorem gX6_tree_X4_findTree : GoodIn wsX6_tree (wsV RX6 214 RX4 yX4_findTree wsX4_findTree) := goodIn_app (goodIn_of _ (by decide +kernel)) ggX6_tree_X4_findTree
theorem dX6_tree_0 : decode cX6_tree 0 = .ok (.aload_n 0, 1) := by decide +kernel
theorem dX6_tree_1 : decode cX6_tree 1 = .ok (.getfield 10, 3) := by decide +kernel
theorem dX6_tree_4 : decode cX6_tree 4 = .ok (.iload_n 1, 1) := by decide +kernel
theorem dX6_tree_5 : decode cX6_tree 5 = .ok (.invokevirtual 154, 3) := by decide +kernel
theorem dX6_tree_8 : decode cX6_tree 8 = .ok (.ifCond .ne 6, 3) := by decide +kernel
theorem dX6_tree_11 : decode cX6_tree 11 = .ok (.ldc 134, 2) := by decide +kernel
theorem dX6_tree_13 : decode cX6_tree 13 = .ok (.ireturn, 1) := by decide +kernel
theorem dX6_tree_14 : decode cX6_tree 14 = .ok (.iload_n 2, 1) := by decide +kernel
theorem dX6_tree_15 : decode cX6_tree 15 = .ok (.iconst 1, 1) := by decide +kernel
theorem dX6_tree_16 : decode cX6_tree 16 = .ok (.if_icmp .lt 18, 3) := by decide +kernel
theorem dX6_tree_19 : decode cX6_tree 19 = .ok (.iload_n 2, 1) := by decide +kernel
theorem dX6_tree_20 : decode cX6_tree 20 = .ok (.bipush 99, 2) := by decide +kernel
theorem dX6_tree_22 : decode cX6_tree 22 = .ok (.if_icmp .gt 12, 3) := by decide +kernel
theorem dX6_tree_25 : decode cX6_tree 25 = .ok (.iload_n 3, 1) := by decide +kernel
theorem dX6_tree_26 : decode cX6_tree 26 = .ok (.ifCond .lt 8, 3) := by decide +kernel
theorem dX6_tree_29 : decode cX6_tree 29 = .ok (.iload_n 3, 1) := by decide +kernel
theorem dX6_tree_30 : decode cX6_tree 30 = .ok (.iconst 2, 1) := by decide +kernel
theorem dX6_tree_31 : decode cX6_tree 31 = .ok (.if_icmp .le 6, 3) := by decide +kernel
theorem dX6_tree_34 : decode cX6_tree 34 = .ok (.ldc 61, 2) := by decide +kernel
theorem dX6_tree_36 : decode cX6_tree 36 = .ok (.ireturn, 1) := by decide +kernel
theorem dX6_tree_37 : decode cX6_tree 37 = .ok (.aload_n 0, 1) := by decide +kernel
theorem dX6_tree_38 : decode cX6_tree 38 = .ok (.getfield 39, 3) := by decide +kernel
theorem dX6_tree_41 : decode cX6_tree 41 = .ok (.iload_n 1, 1) := by decide +kernel
theorem dX6_tree_42 : decode cX6_tree 42 = .ok (.iload_n 2, 1) := by decide +kernel
theorem dX6_tree_43 : decode cX6_tree 43 = .ok (.invokevirtual 214, 3) := by decide +kernel
theorem dX6_tree_46 : decode cX6_tree 46 = .ok (.iload_n 3, 1) := by decide +kernel
theorem dX6_tree_47 : decode cX6_tree 47 = .ok (.iconst 2, 1) := by decide +kernel
theorem dX6_tree_48 : decode cX6_tree 48 = .ok (.if_icmp .ne 11, 3) := by decide +kernel
theorem dX6_tree_51 : decode cX6_tree 51 = .ok (.aload_n 0, 1) := by decide +kernel
theorem dX6_tree_52 : decode cX6_tree 52 = .ok (.getfield 39, 3) := by decide +kernel
theorem dX6_tree_55 : decode cX6_tree 55 = .ok (.getfield 217, 3) := by decide +kernel
theorem dX6_tree_58 : decode cX6_tree 58 = .ok (.ireturn, 1) := by decide +kernel
theorem dX6_tree_59 : decode cX6_tree 59 = .ok (.iload_n 3, 1) := by decide +kernel
theorem dX6_tree_60 : decode cX6_tree 60 = .ok (.ifCond .ne 13, 3) := by decide +kernel
theorem dX6_tree_63 : decode cX6_tree 63 = .ok (.aload_n 0, 1) := by decide +kernel
theorem dX6_tree_64 : decode cX6_tree 64 = .ok (.getfield 39, 3) := by decide +kernel
theorem dX6_tree_67 : decode cX6_tree 67 = .ok (.getfield 220, 3) := by decide +kernel
theorem dX6_tree_70 : decode cX6_tree 70 = .ok (.goto 10, 3) := by decide +kernel
theorem dX6_tree_73 : decode cX6_tree 73 = .ok (.aload_n 0, 1) := by decide +kernel
theorem dX6_tree_74 : decode cX6_tree 74 = .ok (.getfield 39, 3) := by decide +kernel
theorem dX6_tree_77 : decode cX6_tree 77 = .ok (.getfield 223, 3) := by decide +kernel
theorem dX6_tree_80 : decode cX6_tree 80 = .ok (.ireturn, 1) := by decide +kernel
set_option maxRecDepth 20000 in
theorem ggX6_wins_X2_hasMan : GoodIn wsX6_wins wsX2_hasMan := goodIn_r _ [11, 12, 132, 133, 134, 135, 136, 137, 138, 139, 140, 141, 142, 143, 144, 145] (by decide +kernel) (by decide +kernel)
set_option maxRecDepth 20000 in
theorem gX6_wins_X2_hasMan : GoodIn wsX6_wins (wsV RX6 154 RX2 yX2_hasMan wsX2_hasMan) := goodIn_app (goodIn_of _ (by decide +kernel)) ggX6_wins_X2_hasMan
set_option maxRecDepth 20000 in
theorem ggX6_wins_X4_lookAll : GoodIn wsX6_wins wsX4_lookAll := goodIn_r _ [17, 18, 19, 20, 21, 22, 23, 16, 24, 25, 26, 27, 28, 29, 30, 31, 10, 32, 33, 34, 35, 36, 37, 38, 39, 40, 41, 42, 43, 44, 45, 46, 47, 48, 49, 50, 51, 52, 53, 54, 55, 56, 57, 58, 59, 60, 61, 62, 63, 64, 65, 66, 67, 68, 69, 70, 71, 72, 73, 74, 75, 76, 77, 78, 79, 80, 146, 147, 148, 149, 150, 151, 152, 153, 132, 133, 134, 135, 136, 137, 138, 139, 140, 141, 142, 143, 144, 145, 125, 126, 127, 128, 129, 130, 131] (by decide +kernel) (by decide +kernel)
set_option maxRecDepth 20000 in
theorem gX6_wins_X4_lookAll : GoodIn wsX6_wins (wsV RX6 145 RX4 yX4_lookAll wsX4_lookAll) := goodIn_app (goodIn_of _ (by decide +kernel)) ggX6_wins_X4_lookAll
set_option maxRecDepth 20000 in
theorem ggX6_wins_X4_shareOf : GoodIn wsX6_wins wsX4_shareOf := goodIn_r _ [84, 19, 27, 28, 50, 51, 48, 52, 85, 86, 87, 16, 88, 89, 90, 91, 92, 18, 25, 93, 69, 70, 71, 10, 72, 73, 94, 95, 96, 97, 20, 45, 98, 75, 99, 100, 101, 102, 103, 58, 59, 60, 61, 62, 63, 64, 104, 105, 106, 107, 108, 109, 110, 111, 112, 113, 114, 115, 146, 147, 148, 149, 150, 151, 152, 153, 132, 133, 134, 135, 136, 137, 138, 139, 140, 141, 142, 143, 144, 145, 125, 126, 127, 128, 129, 130, 131] (by decide +kernel) (by decide +kernel)
set_option maxRecDepth 20000 in
theorem gX6_wins_X4_shareOf : GoodIn wsX6_wins (wsV RX6 187 RX4 yX4_shareOf wsX4_shareOf) := goodIn_app (goodIn_of _ (by decide +kernel)) ggX6_wins_X4_shareOf
set_option maxRecDepth 20000 in
theorem ggX6_wins_X4_lookBy : GoodIn wsX6_wins wsX4_lookBy := goodIn_r _ [24, 19, 25, 26, 27, 28, 29, 30, 31, 10, 32, 33, 34, 35, 36, 37, 38, 39, 16, 40, 41, 42, 43, 44, 45, 46, 47, 48, 49, 50, 51, 52, 53, 54, 55, 56, 57, 58, 59, 60, 61, 62, 63, 64, 65, 66, 67, 68, 69, 70, 71, 72, 73, 74, 75, 76, 77, 78, 79, 80, 18, 146, 147, 148, 149, 150, 151, 152, 153, 125, 126, 127, 128, 129, 130, 131, 132, 133, 134, 135, 136, 137, 138, 139, 140, 141, 142, 143, 144, 145] (by decide +kernel) (by decide +kernel)
set_option maxRecDepth 20000 in
theorem gX6_wins_X4_lookBy : GoodIn wsX6_wins (wsV RX6 226 RX4 yX4_lookBy wsX4_lookBy) := goodIn_app (goodIn_of _ (by decide +kernel)) ggX6_wins_X4_lookBy
theorem dX6_wins_0 : decode cX6_wins 0 = .ok (.aload_n 0, 1) := by decide +kernel
theorem dX6_wins_1 : decode cX6_wins 1 = .ok (.getfield 10, 3) := by decide +kernel
theorem dX6_wins_4 : decode cX6_wins 4 = .ok (.iload_n 1, 1) := by decide +kernel
theorem dX6_wins_5 : decode cX6_wins 5 = .ok (.invokevirtual 154, 3) := by decide +kernel
theorem dX6_wins_8 : decode cX6_wins 8 = .ok (.ifCond .ne 6, 3) := by decide +kernel
theorem dX6_wins_11 : decode cX6_wins 11 = .ok (.ldc 134, 2) := by decide +kernel
theorem dX6_wins_13 : decode cX6_wins 13 = .ok (.ireturn, 1) := by decide +kernel
theorem dX6_wins_14 : decode cX6_wins 14 = .ok (.aload_n 0, 1) := by decide +kernel
theorem dX6_wins_15 : decode cX6_wins 15 = .ok (.getfield 26, 3) := by decide +kernel
theorem dX6_wins_18 : decode cX6_wins 18 = .ok (.getfield 164, 3) := by decide +kernel
theorem dX6_wins_21 : decode cX6_wins 21 = .ok (.iload_n 1, 1) := by decide +kernel
theorem dX6_wins_22 : decode cX6_wins 22 = .ok (.iaload, 1) := by decide +kernel
theorem dX6_wins_23 : decode cX6_wins 23 = .ok (.istore_n 2, 1) := by decide +kernel
theorem dX6_wins_24 : decode cX6_wins 24 = .ok (.iload_n 2, 1) := by decide +kernel
theorem dX6_wins_25 : decode cX6_wins 25 = .ok (.bipush 9, 2) := by decide +kernel
theorem dX6_wins_27 : decode cX6_wins 27 = .ok (.if_icmp .lt 6, 3) := by decide +kernel
theorem dX6_wins_30 : decode cX6_wins 30 = .ok (.ldc 193, 2) := by decide +kernel
theorem dX6_wins_32 : decode cX6_wins 32 = .ok (.ireturn, 1) := by decide +kernel
theorem dX6_wins_33 : decode cX6_wins 33 = .ok (.aload_n 0, 1) := by decide +kernel
theorem dX6_wins_34 : decode cX6_wins 34 = .ok (.getfield 39, 3) := by decide +kernel
theorem dX6_wins_37 : decode cX6_wins 37 = .ok (.invokevirtual 145, 3) := by decide +kernel
theorem dX6_wins_40 : decode cX6_wins 40 = .ok (.aload_n 0, 1) := by decide +kernel
theorem dX6_wins_41 : decode cX6_wins 41 = .ok (.getfield 39, 3) := by decide +kernel
theorem dX6_wins_44 : decode cX6_wins 44 = .ok (.iload_n 1, 1) := by decide +kernel
theorem dX6_wins_45 : decode cX6_wins 45 = .ok (.invokevirtual 187, 3) := by decide +kernel
theorem dX6_wins_48 : decode cX6_wins 48 = .ok (.istore_n 3, 1) := by decide +kernel
theorem dX6_wins_49 : decode cX6_wins 49 = .ok (.aload_n 0, 1) := by decide +kernel
theorem dX6_wins_50 : decode cX6_wins 50 = .ok (.getfield 26, 3) := by decide +kernel
theorem dX6_wins_53 : decode cX6_wins 53 = .ok (.getfield 164, 3) := by decide +kernel
theorem dX6_wins_56 : decode cX6_wins 56 = .ok (.iload_n 1, 1) := by decide +kernel
theorem dX6_wins_57 : decode cX6_wins 57 = .ok (.iload_n 2, 1) := by decide +kernel
theorem dX6_wins_58 : decode cX6_wins 58 = .ok (.iconst 1, 1) := by decide +kernel
theorem dX6_wins_59 : decode cX6_wins 59 = .ok (.iadd, 1) := by decide +kernel
theorem dX6_wins_60 : decode cX6_wins 60 = .ok (.iastore, 1) := by decide +kernel
theorem dX6_wins_61 : decode cX6_wins 61 = .ok (.aload_n 0, 1) := by decide +kernel
theorem dX6_wins_62 : decode cX6_wins 62 = .ok (.getfield 39, 3) := by decide +kernel
theorem dX6_wins_65 : decode cX6_wins 65 = .ok (.iload_n 1, 1) := by decide +kernel
theorem dX6_wins_66 : decode cX6_wins 66 = .ok (.invokevirtual 226, 3) := by decide +kernel
theorem dX6_wins_69 : decode cX6_wins 69 = .ok (.aload_n 0, 1) := by decide +kernel
theorem dX6_wins_70 : decode cX6_wins 70 = .ok (.getfield 39, 3) := by decide +kernel
theorem dX6_wins_73 : decode cX6_wins 73 = .ok (.iload_n 1, 1) := by decide +kernel
theorem dX6_wins_74 : decode cX6_wins 74 = .ok (.invokevirtual 187, 3) := by decide +kernel
theorem dX6_wins_77 : decode cX6_wins 77 = .ok (.istore 4, 2) := by decide +kernel
theorem dX6_wins_79 : decode cX6_wins 79 = .ok (.aload_n 0, 1) := by decide +kernel
theorem dX6_wins_80 : decode cX6_wins 80 = .ok (.getfield 26, 3) := by decide +kernel
theorem dX6_wins_83 : decode cX6_wins 83 = .ok (.getfield 164, 3) := by decide +kernel
theorem dX6_wins_86 : decode cX6_wins 86 = .ok (.iload_n 1, 1) := by decide +kernel
theorem dX6_wins_87 : decode cX6_wins 87 = .ok (.iload_n 2, 1) := by decide +kernel
theorem dX6_wins_88 : decode cX6_wins 88 = .ok (.iastore, 1) := by decide +kernel
theorem dX6_wins_89 : decode cX6_wins 89 = .ok (.iload 4, 2) := by decide +kernel
theorem dX6_wins_91 : decode cX6_wins 91 = .ok (.iload_n 3, 1) := by decide +kernel
theorem dX6_wins_92 : decode cX6_wins 92 = .ok (.isub, 1) := by decide +kernel
theorem dX6_wins_93 : decode cX6_wins 93 = .ok (.ireturn, 1) := by decide +kernel
set_option maxRecDepth 20000 in
theorem ggX6_view_X2_hasMan : GoodIn wsX6_view wsX2_hasMan := goodIn_r _ [10, 11, 140, 141, 142, 143, 144, 145, 146, 147, 148, 149, 150, 151, 152, 153] (by decide +kernel) (by decide +kernel)
set_option maxRecDepth 20000 in
theorem gX6_view_X2_hasMan : GoodIn wsX6_view (wsV RX6 154 RX2 yX2_hasMan wsX2_hasMan) := goodIn_app (goodIn_of _ (by decide +kernel)) ggX6_view_X2_hasMan
set_option maxRecDepth 20000 in
theorem ggX6_view_X2_hasCell : GoodIn wsX6_view wsX2_hasCell := goodIn_r _ [15, 16, 17, 140, 141, 142, 143, 144, 145, 146, 147, 148, 149, 150, 151, 152, 153] (by decide +kernel) (by decide +kernel)
set_option maxRecDepth 20000 in
theorem gX6_view_X2_hasCell : GoodIn wsX6_view (wsV RX6 130 RX2 yX2_hasCell wsX2_hasCell) := goodIn_app (goodIn_of _ (by decide +kernel)) ggX6_view_X2_hasCell
set_option maxRecDepth 20000 in
theorem ggX6_view_X2_numberOf : GoodIn wsX6_view wsX2_numberOf := goodIn_r _ [21, 16, 140, 141, 142, 143, 144, 145, 146, 147, 148, 149, 150, 151, 152, 153] (by decide +kernel) (by decide +kernel)
set_option maxRecDepth 20000 in
theorem gX6_view_X2_numberOf : GoodIn wsX6_view (wsV RX6 135 RX2 yX2_numberOf wsX2_numberOf) := goodIn_app (goodIn_of _ (by decide +kernel)) ggX6_view_X2_numberOf
set_option maxRecDepth 20000 in
theorem ggX6_view_X4_lookAll : GoodIn wsX6_view wsX4_lookAll := goodIn_r _ [26, 27, 28, 29, 30, 31, 32, 25, 33, 34, 35, 36, 37, 38, 39, 40, 9, 41, 42, 43, 44, 45, 46, 47, 48, 49, 50, 51, 52, 53, 54, 55, 56, 57, 58, 59, 60, 61, 62, 63, 64, 65, 66, 67, 68, 69, 70, 71, 72, 73, 74, 75, 76, 77, 78, 19, 20, 21, 16, 79, 80, 81, 82, 83, 84, 85, 154, 155, 156, 157, 158, 159, 160, 161, 140, 141, 142, 143, 144, 145, 146, 147, 148, 149, 150, 151, 152, 153, 133, 134, 135, 136, 137, 138, 139] (by decide +kernel) (by decide +kernel)
set_option maxRecDepth 20000 in
theorem gX6_view_X4_lookAll : GoodIn wsX6_view (wsV RX6 145 RX4 yX4_lookAll wsX4_lookAll) := goodIn_app (goodIn_of _ (by decide +kernel)) ggX6_view_X4_lookAll
set_option maxRecDepth 20000 in
theorem ggX6_view_X4_shareOf : GoodIn wsX6_view wsX4_shareOf := goodIn_r _ [89, 28, 36, 37, 59, 60, 57, 61, 90, 91, 92, 25, 93, 94, 95, 96, 97, 27, 34, 98, 78, 19, 20, 9, 21, 16, 99, 100, 101, 102, 29, 54, 103, 80, 104, 105, 106, 107, 108, 67, 68, 69, 70, 71, 72, 73, 109, 110, 111, 112, 113, 114, 115, 116, 117, 118, 119, 120, 154, 155, 156, 157, 158, 159, 160, 161, 140, 141, 142, 143, 144, 145, 146, 147, 148, 149, 150, 151, 152, 153, 133, 134, 135, 136, 137, 138, 139] (by decide +kernel) (by decide +kernel)
set_option maxRecDepth 20000 in
theorem gX6_view_X4_shareOf : GoodIn wsX6_view (wsV RX6 187 RX4 yX4_shareOf wsX4_shareOf) := goodIn_app (goodIn_of _ (by decide +kernel)) ggX6_view_X4_shareOf
set_option maxRecDepth 20000 in
theorem ggX6_view_X4_lookOver : GoodIn wsX6_view wsX4_lookOver := goodIn_r _ [124, 28, 34, 35, 29, 36, 37, 38, 39, 40, 9, 41, 42, 43, 44, 45, 74, 75, 76, 25, 77, 54, 46, 47, 48, 49, 50, 51, 52, 53, 55, 56, 57, 58, 59, 60, 61, 62, 63, 64, 65, 66, 67, 68, 69, 70, 71, 72, 73, 78, 19, 20, 21, 16, 79, 80, 81, 82, 83, 84, 85, 27, 154, 155, 156, 157, 158, 159, 160, 161, 133, 134, 135, 136, 137, 138, 139, 140, 141, 142, 143, 144, 145, 146, 147, 148, 149, 150, 151, 152, 153] (by decide +kernel) (by decide +kernel)
set_option maxRecDepth 20000 in
theorem gX6_view_X4_lookOver : GoodIn wsX6_view (wsV RX6 230 RX4 yX4_lookOver wsX4_lookOver) := goodIn_app (goodIn_of _ (by decide +kernel)) ggX6_view_X4_lookOver
theorem dX6_view_0 : decode cX6_view 0 = .ok (.aload_n 0, 1) := by decide +kernel
theorem dX6_view_1 : decode cX6_view 1 = .ok (.getfield 10, 3) := by decide +kernel
theorem dX6_view_4 : decode cX6_view 4 = .ok (.iload_n 1, 1) := by decide +kernel
theorem dX6_view_5 : decode cX6_view 5 = .ok (.invokevirtual 154, 3) := by decide +kernel
theorem dX6_view_8 : decode cX6_view 8 = .ok (.ifCond .eq 15, 3) := by decide +kernel
theorem dX6_view_11 : decode cX6_view 11 = .ok (.aload_n 0, 1) := by decide +kernel
theorem dX6_view_12 : decode cX6_view 12 = .ok (.getfield 10, 3) := by decide +kernel
