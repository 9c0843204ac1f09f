theorem dX7_takeLake_52 : decode cX7_takeLake 52 = .ok (.invokevirtual 145, 3) := by decide +kernel
theorem dX7_takeLake_55 : decode cX7_takeLake 55 = .ok (.ireturn, 1) := by decide +kernel
theorem dX7_takeLake_56 : decode cX7_takeLake 56 = .ok (.aload_n 0, 1) := by decide +kernel
theorem dX7_takeLake_57 : decode cX7_takeLake 57 = .ok (.iload_n 2, 1) := by decide +kernel
theorem dX7_takeLake_58 : decode cX7_takeLake 58 = .ok (.putfield 158, 3) := by decide +kernel
theorem dX7_takeLake_61 : decode cX7_takeLake 61 = .ok (.aload_n 0, 1) := by decide +kernel
theorem dX7_takeLake_62 : decode cX7_takeLake 62 = .ok (.aload_n 0, 1) := by decide +kernel
theorem dX7_takeLake_63 : decode cX7_takeLake 63 = .ok (.getfield 152, 3) := by decide +kernel
theorem dX7_takeLake_66 : decode cX7_takeLake 66 = .ok (.putfield 161, 3) := by decide +kernel
theorem dX7_takeLake_69 : decode cX7_takeLake 69 = .ok (.iconst 0, 1) := by decide +kernel
theorem dX7_takeLake_70 : decode cX7_takeLake 70 = .ok (.ireturn, 1) := by decide +kernel
set_option maxRecDepth 20000 in
theorem ggX7_takeDoor_X7_into : GoodIn wsX7_takeDoor wsX7_into := goodIn_r _ [10, 11, 12, 13, 14, 9, 15, 16, 17, 18, 19, 20, 21, 22, 23, 24, 25, 26, 27, 28, 29, 30, 31, 32, 33, 34, 35, 36, 37, 38, 39, 40, 41, 42, 43, 44, 45, 46, 47, 48, 49, 50, 51, 52, 53, 54, 55, 56, 57, 58, 59, 60, 61, 62, 63, 64, 65, 66, 67, 68, 69, 70, 71, 72, 73, 74, 75, 76, 77, 78, 79, 80, 81] (by decide +kernel) (by decide +kernel)
set_option maxRecDepth 20000 in
theorem gX7_takeDoor_X7_into : GoodIn wsX7_takeDoor (wsV RX7 167 RX7 yX7_into wsX7_into) := goodIn_app (goodIn_of _ (by decide +kernel)) ggX7_takeDoor_X7_into
theorem dX7_takeDoor_0 : decode cX7_takeDoor 0 = .ok (.aload_n 0, 1) := by decide +kernel
theorem dX7_takeDoor_1 : decode cX7_takeDoor 1 = .ok (.getfield 164, 3) := by decide +kernel
theorem dX7_takeDoor_4 : decode cX7_takeDoor 4 = .ok (.istore_n 1, 1) := by decide +kernel
theorem dX7_takeDoor_5 : decode cX7_takeDoor 5 = .ok (.aload_n 0, 1) := by decide +kernel
theorem dX7_takeDoor_6 : decode cX7_takeDoor 6 = .ok (.dup, 1) := by decide +kernel
theorem dX7_takeDoor_7 : decode cX7_takeDoor 7 = .ok (.getfield 164, 3) := by decide +kernel
theorem dX7_takeDoor_10 : decode cX7_takeDoor 10 = .ok (.iconst 1, 1) := by decide +kernel
theorem dX7_takeDoor_11 : decode cX7_takeDoor 11 = .ok (.iadd, 1) := by decide +kernel
theorem dX7_takeDoor_12 : decode cX7_takeDoor 12 = .ok (.putfield 164, 3) := by decide +kernel
theorem dX7_takeDoor_15 : decode cX7_takeDoor 15 = .ok (.aload_n 0, 1) := by decide +kernel
theorem dX7_takeDoor_16 : decode cX7_takeDoor 16 = .ok (.aload_n 0, 1) := by decide +kernel
theorem dX7_takeDoor_17 : decode cX7_takeDoor 17 = .ok (.getfield 50, 3) := by decide +kernel
theorem dX7_takeDoor_20 : decode cX7_takeDoor 20 = .ok (.iload_n 1, 1) := by decide +kernel
theorem dX7_takeDoor_21 : decode cX7_takeDoor 21 = .ok (.iconst 0, 1) := by decide +kernel
theorem dX7_takeDoor_22 : decode cX7_takeDoor 22 = .ok (.aload_n 0, 1) := by decide +kernel
theorem dX7_takeDoor_23 : decode cX7_takeDoor 23 = .ok (.getfield 158, 3) := by decide +kernel
theorem dX7_takeDoor_26 : decode cX7_takeDoor 26 = .ok (.iconst 1, 1) := by decide +kernel
theorem dX7_takeDoor_27 : decode cX7_takeDoor 27 = .ok (.isub, 1) := by decide +kernel
theorem dX7_takeDoor_28 : decode cX7_takeDoor 28 = .ok (.invokevirtual 167, 3) := by decide +kernel
theorem dX7_takeDoor_31 : decode cX7_takeDoor 31 = .ok (.istore_n 2, 1) := by decide +kernel
theorem dX7_takeDoor_32 : decode cX7_takeDoor 32 = .ok (.iload_n 2, 1) := by decide +kernel
theorem dX7_takeDoor_33 : decode cX7_takeDoor 33 = .ok (.ifCond .le 7, 3) := by decide +kernel
theorem dX7_takeDoor_36 : decode cX7_takeDoor 36 = .ok (.iload_n 2, 1) := by decide +kernel
theorem dX7_takeDoor_37 : decode cX7_takeDoor 37 = .ok (.goto 15, 3) := by decide +kernel
theorem dX7_takeDoor_40 : decode cX7_takeDoor 40 = .ok (.aload_n 0, 1) := by decide +kernel
theorem dX7_takeDoor_41 : decode cX7_takeDoor 41 = .ok (.aload_n 0, 1) := by decide +kernel
theorem dX7_takeDoor_42 : decode cX7_takeDoor 42 = .ok (.getfield 53, 3) := by decide +kernel
theorem dX7_takeDoor_45 : decode cX7_takeDoor 45 = .ok (.iload_n 1, 1) := by decide +kernel
theorem dX7_takeDoor_46 : decode cX7_takeDoor 46 = .ok (.iconst 0, 1) := by decide +kernel
theorem dX7_takeDoor_47 : decode cX7_takeDoor 47 = .ok (.bipush 99, 2) := by decide +kernel
theorem dX7_takeDoor_49 : decode cX7_takeDoor 49 = .ok (.invokevirtual 167, 3) := by decide +kernel
theorem dX7_takeDoor_52 : decode cX7_takeDoor 52 = .ok (.istore_n 2, 1) := by decide +kernel
theorem dX7_takeDoor_53 : decode cX7_takeDoor 53 = .ok (.iload_n 2, 1) := by decide +kernel
theorem dX7_takeDoor_54 : decode cX7_takeDoor 54 = .ok (.ifCond .le 7, 3) := by decide +kernel
theorem dX7_takeDoor_57 : decode cX7_takeDoor 57 = .ok (.iload_n 2, 1) := by decide +kernel
theorem dX7_takeDoor_58 : decode cX7_takeDoor 58 = .ok (.goto 15, 3) := by decide +kernel
theorem dX7_takeDoor_61 : decode cX7_takeDoor 61 = .ok (.aload_n 0, 1) := by decide +kernel
theorem dX7_takeDoor_62 : decode cX7_takeDoor 62 = .ok (.aload_n 0, 1) := by decide +kernel
theorem dX7_takeDoor_63 : decode cX7_takeDoor 63 = .ok (.getfield 56, 3) := by decide +kernel
theorem dX7_takeDoor_66 : decode cX7_takeDoor 66 = .ok (.iload_n 1, 1) := by decide +kernel
theorem dX7_takeDoor_67 : decode cX7_takeDoor 67 = .ok (.iconst 0, 1) := by decide +kernel
theorem dX7_takeDoor_68 : decode cX7_takeDoor 68 = .ok (.bipush 9, 2) := by decide +kernel
theorem dX7_takeDoor_70 : decode cX7_takeDoor 70 = .ok (.invokevirtual 167, 3) := by decide +kernel
theorem dX7_takeDoor_73 : decode cX7_takeDoor 73 = .ok (.ireturn, 1) := by decide +kernel
set_option maxRecDepth 20000 in
theorem ggX7_takeCell_X7_takeNumber : GoodIn wsX7_takeCell wsX7_takeNumber := goodIn_r _ [9, 10, 11, 12, 4, 2, 13, 14, 15, 16, 17, 8, 18, 19, 20, 21, 22, 23, 24, 25, 26, 31, 32, 33, 34, 35, 36, 37, 38, 39, 40, 41, 42, 43, 44, 45, 46, 47, 48, 49, 50, 51, 52, 53, 54, 55, 56, 57, 58, 59, 60, 61, 62, 63, 64, 65, 66, 67, 68, 69, 70, 71, 72, 73, 74, 75, 76, 77, 78] (by decide +kernel) (by decide +kernel)
set_option maxRecDepth 20000 in
theorem gX7_takeCell_X7_takeNumber : GoodIn wsX7_takeCell (wsV RX7 155 RX7 yX7_takeNumber wsX7_takeNumber) := goodIn_app (goodIn_of _ (by decide +kernel)) ggX7_takeCell_X7_takeNumber
set_option maxRecDepth 20000 in
theorem ggX7_takeCell_X7_fails : GoodIn wsX7_takeCell wsX7_fails := goodIn_r _ [25, 26, 31, 32, 33, 34, 35, 36, 37, 38, 39, 40, 41, 42, 43, 44, 45, 46, 47, 48, 49, 50, 51, 52, 53, 54, 55, 56, 57, 58, 59, 60, 61, 62, 63, 64, 65, 66, 67, 68, 69, 70, 71, 72, 73, 74, 75, 76, 77, 78] (by decide +kernel) (by decide +kernel)
set_option maxRecDepth 20000 in
theorem gX7_takeCell_X7_fails : GoodIn wsX7_takeCell (wsV RX7 145 RX7 yX7_fails wsX7_fails) := goodIn_app (goodIn_of _ (by decide +kernel)) ggX7_takeCell_X7_fails
set_option maxRecDepth 20000 in
theorem ggX7_takeCell_X7_into : GoodIn wsX7_takeCell wsX7_into := goodIn_r _ [30, 2, 5, 6, 7, 8, 9, 10, 11, 12, 4, 13, 14, 15, 16, 17, 18, 19, 20, 21, 22, 23, 24, 25, 26, 31, 32, 33, 34, 35, 36, 37, 38, 39, 40, 41, 42, 43, 44, 45, 46, 47, 48, 49, 50, 51, 52, 53, 54, 55, 56, 57, 58, 59, 60, 61, 62, 63, 64, 65, 66, 67, 68, 69, 70, 71, 72, 73, 74, 75, 76, 77, 78] (by decide +kernel) (by decide +kernel)
set_option maxRecDepth 20000 in
theorem gX7_takeCell_X7_into : GoodIn wsX7_takeCell (wsV RX7 167 RX7 yX7_into wsX7_into) := goodIn_app (goodIn_of _ (by decide +kernel)) ggX7_takeCell_X7_into
theorem dX7_takeCell_0 : decode cX7_takeCell 0 = .ok (.aload_n 0, 1) := by decide +kernel
theorem dX7_takeCell_1 : decode cX7_takeCell 1 = .ok (.iconst 0, 1) := by decide +kernel
theorem dX7_takeCell_2 : decode cX7_takeCell 2 = .ok (.aload_n 0, 1) := by decide +kernel
theorem dX7_takeCell_3 : decode cX7_takeCell 3 = .ok (.getfield 158, 3) := by decide +kernel
theorem dX7_takeCell_6 : decode cX7_takeCell 6 = .ok (.iconst 1, 1) := by decide +kernel
theorem dX7_takeCell_7 : decode cX7_takeCell 7 = .ok (.isub, 1) := by decide +kernel
theorem dX7_takeCell_8 : decode cX7_takeCell 8 = .ok (.invokevirtual 155, 3) := by decide +kernel
theorem dX7_takeCell_11 : decode cX7_takeCell 11 = .ok (.istore_n 3, 1) := by decide +kernel
theorem dX7_takeCell_12 : decode cX7_takeCell 12 = .ok (.aload_n 0, 1) := by decide +kernel
theorem dX7_takeCell_13 : decode cX7_takeCell 13 = .ok (.getfield 152, 3) := by decide +kernel
theorem dX7_takeCell_16 : decode cX7_takeCell 16 = .ok (.istore 4, 2) := by decide +kernel
theorem dX7_takeCell_18 : decode cX7_takeCell 18 = .ok (.iload_n 3, 1) := by decide +kernel
theorem dX7_takeCell_19 : decode cX7_takeCell 19 = .ok (.ifCond .le 7, 3) := by decide +kernel
theorem dX7_takeCell_22 : decode cX7_takeCell 22 = .ok (.iload_n 3, 1) := by decide +kernel
theorem dX7_takeCell_23 : decode cX7_takeCell 23 = .ok (.goto 14, 3) := by decide +kernel
theorem dX7_takeCell_26 : decode cX7_takeCell 26 = .ok (.aload_n 0, 1) := by decide +kernel
theorem dX7_takeCell_27 : decode cX7_takeCell 27 = .ok (.iconst 0, 1) := by decide +kernel
theorem dX7_takeCell_28 : decode cX7_takeCell 28 = .ok (.aload_n 0, 1) := by decide +kernel
theorem dX7_takeCell_29 : decode cX7_takeCell 29 = .ok (.getfield 161, 3) := by decide +kernel
theorem dX7_takeCell_32 : decode cX7_takeCell 32 = .ok (.iconst 1, 1) := by decide +kernel
theorem dX7_takeCell_33 : decode cX7_takeCell 33 = .ok (.isub, 1) := by decide +kernel
theorem dX7_takeCell_34 : decode cX7_takeCell 34 = .ok (.invokevirtual 155, 3) := by decide +kernel
theorem dX7_takeCell_37 : decode cX7_takeCell 37 = .ok (.istore_n 3, 1) := by decide +kernel
theorem dX7_takeCell_38 : decode cX7_takeCell 38 = .ok (.iload_n 3, 1) := by decide +kernel
theorem dX7_takeCell_39 : decode cX7_takeCell 39 = .ok (.ifCond .le 5, 3) := by decide +kernel
theorem dX7_takeCell_42 : decode cX7_takeCell 42 = .ok (.iload_n 3, 1) := by decide +kernel
theorem dX7_takeCell_43 : decode cX7_takeCell 43 = .ok (.ireturn, 1) := by decide +kernel
theorem dX7_takeCell_44 : decode cX7_takeCell 44 = .ok (.aload_n 0, 1) := by decide +kernel
theorem dX7_takeCell_45 : decode cX7_takeCell 45 = .ok (.getfield 158, 3) := by decide +kernel
theorem dX7_takeCell_48 : decode cX7_takeCell 48 = .ok (.aload_n 0, 1) := by decide +kernel
theorem dX7_takeCell_49 : decode cX7_takeCell 49 = .ok (.getfield 152, 3) := by decide +kernel
theorem dX7_takeCell_52 : decode cX7_takeCell 52 = .ok (.imul, 1) := by decide +kernel
theorem dX7_takeCell_53 : decode cX7_takeCell 53 = .ok (.iload 4, 2) := by decide +kernel
theorem dX7_takeCell_55 : decode cX7_takeCell 55 = .ok (.iadd, 1) := by decide +kernel
theorem dX7_takeCell_56 : decode cX7_takeCell 56 = .ok (.istore 5, 2) := by decide +kernel
theorem dX7_takeCell_58 : decode cX7_takeCell 58 = .ok (.aload_n 1, 1) := by decide +kernel
theorem dX7_takeCell_59 : decode cX7_takeCell 59 = .ok (.iload 5, 2) := by decide +kernel
theorem dX7_takeCell_61 : decode cX7_takeCell 61 = .ok (.iaload, 1) := by decide +kernel
theorem dX7_takeCell_62 : decode cX7_takeCell 62 = .ok (.ifCond .lt 13, 3) := by decide +kernel
theorem dX7_takeCell_65 : decode cX7_takeCell 65 = .ok (.aload_n 0, 1) := by decide +kernel
theorem dX7_takeCell_66 : decode cX7_takeCell 66 = .ok (.iconst 4, 1) := by decide +kernel
theorem dX7_takeCell_67 : decode cX7_takeCell 67 = .ok (.aload_n 0, 1) := by decide +kernel
theorem dX7_takeCell_68 : decode cX7_takeCell 68 = .ok (.getfield 149, 3) := by decide +kernel
theorem dX7_takeCell_71 : decode cX7_takeCell 71 = .ok (.invokevirtual 145, 3) := by decide +kernel
theorem dX7_takeCell_74 : decode cX7_takeCell 74 = .ok (.ireturn, 1) := by decide +kernel
theorem dX7_takeCell_75 : decode cX7_takeCell 75 = .ok (.aload_n 0, 1) := by decide +kernel
theorem dX7_takeCell_76 : decode cX7_takeCell 76 = .ok (.aload_n 1, 1) := by decide +kernel
theorem dX7_takeCell_77 : decode cX7_takeCell 77 = .ok (.iload 5, 2) := by decide +kernel
theorem dX7_takeCell_79 : decode cX7_takeCell 79 = .ok (.iload_n 2, 1) := by decide +kernel
theorem dX7_takeCell_80 : decode cX7_takeCell 80 = .ok (.bipush 99, 2) := by decide +kernel
theorem dX7_takeCell_82 : decode cX7_takeCell 82 = .ok (.invokevirtual 167, 3) := by decide +kernel
theorem dX7_takeCell_85 : decode cX7_takeCell 85 = .ok (.ireturn, 1) := by decide +kernel
set_option maxRecDepth 20000 in
theorem ggX7_takeMist_X7_into : GoodIn wsX7_takeMist wsX7_into := goodIn_r _ [8, 9, 10, 11, 12, 7, 13, 14, 15, 16, 3, 17, 18, 19, 20, 21, 22, 23, 24, 25, 26, 27, 28, 29, 30, 31, 32, 33, 34, 35, 36, 37, 38, 39, 40, 41, 42, 43, 44, 45, 46, 47, 48, 49, 50, 51, 52, 53, 54, 55, 56, 57, 58, 59, 60, 61, 62, 63, 64, 65, 66, 67, 68, 69, 70, 71, 72, 73, 74, 75, 76, 77, 78] (by decide +kernel) (by decide +kernel)
set_option maxRecDepth 20000 in
theorem gX7_takeMist_X7_into : GoodIn wsX7_takeMist (wsV RX7 167 RX7 yX7_into wsX7_into) := goodIn_app (goodIn_of _ (by decide +kernel)) ggX7_takeMist_X7_into
set_option maxRecDepth 20000 in
theorem ggX7_takeMist_X7_fails : GoodIn wsX7_takeMist wsX7_fails := goodIn_r _ [29, 30, 31, 32, 33, 34, 35, 36, 37, 38, 39, 40, 41, 42, 43, 44, 45, 46, 47, 48, 49, 50, 51, 52, 53, 54, 55, 56, 57, 58, 59, 60, 61, 62, 63, 64, 65, 66, 67, 68, 69, 70, 71, 72, 73, 74, 75, 76, 77, 78] (by decide +kernel) (by decide +kernel)
set_option maxRecDepth 20000 in
theorem gX7_takeMist_X7_fails : GoodIn wsX7_takeMist (wsV RX7 145 RX7 yX7_fails wsX7_fails) := goodIn_app (goodIn_of _ (by decide +kernel)) ggX7_takeMist_X7_fails
theorem dX7_takeMist_0 : decode cX7_takeMist 0 = .ok (.iconst 3, 1) := by decide +kernel
theorem dX7_takeMist_1 : decode cX7_takeMist 1 = .ok (.aload_n 0, 1) := by decide +kernel
theorem dX7_takeMist_2 : decode cX7_takeMist 2 = .ok (.getfield 171, 3) := by decide +kernel
theorem dX7_takeMist_5 : decode cX7_takeMist 5 = .ok (.imul, 1) := by decide +kernel
theorem dX7_takeMist_6 : decode cX7_takeMist 6 = .ok (.istore_n 1, 1) := by decide +kernel
theorem dX7_takeMist_7 : decode cX7_takeMist 7 = .ok (.aload_n 0, 1) := by decide +kernel
theorem dX7_takeMist_8 : decode cX7_takeMist 8 = .ok (.dup, 1) := by decide +kernel
theorem dX7_takeMist_9 : decode cX7_takeMist 9 = .ok (.getfield 171, 3) := by decide +kernel
theorem dX7_takeMist_12 : decode cX7_takeMist 12 = .ok (.iconst 1, 1) := by decide +kernel
theorem dX7_takeMist_13 : decode cX7_takeMist 13 = .ok (.iadd, 1) := by decide +kernel
theorem dX7_takeMist_14 : decode cX7_takeMist 14 = .ok (.putfield 171, 3) := by decide +kernel
theorem dX7_takeMist_17 : decode cX7_takeMist 17 = .ok (.aload_n 0, 1) := by decide +kernel
theorem dX7_takeMist_18 : decode cX7_takeMist 18 = .ok (.aload_n 0, 1) := by decide +kernel
theorem dX7_takeMist_19 : decode cX7_takeMist 19 = .ok (.getfield 65, 3) := by decide +kernel
theorem dX7_takeMist_22 : decode cX7_takeMist 22 = .ok (.iload_n 1, 1) := by decide +kernel
theorem dX7_takeMist_23 : decode cX7_takeMist 23 = .ok (.iconst 0, 1) := by decide +kernel
theorem dX7_takeMist_24 : decode cX7_takeMist 24 = .ok (.sipush 999, 3) := by decide +kernel
theorem dX7_takeMist_27 : decode cX7_takeMist 27 = .ok (.invokevirtual 167, 3) := by decide +kernel
theorem dX7_takeMist_30 : decode cX7_takeMist 30 = .ok (.istore_n 2, 1) := by decide +kernel
theorem dX7_takeMist_31 : decode cX7_takeMist 31 = .ok (.iload_n 2, 1) := by decide +kernel
theorem dX7_takeMist_32 : decode cX7_takeMist 32 = .ok (.ifCond .le 7, 3) := by decide +kernel
theorem dX7_takeMist_35 : decode cX7_takeMist 35 = .ok (.iload_n 2, 1) := by decide +kernel
theorem dX7_takeMist_36 : decode cX7_takeMist 36 = .ok (.goto 18, 3) := by decide +kernel
theorem dX7_takeMist_39 : decode cX7_takeMist 39 = .ok (.aload_n 0, 1) := by decide +kernel
theorem dX7_takeMist_40 : decode cX7_takeMist 40 = .ok (.aload_n 0, 1) := by decide +kernel
theorem dX7_takeMist_41 : decode cX7_takeMist 41 = .ok (.getfield 65, 3) := by decide +kernel
theorem dX7_takeMist_44 : decode cX7_takeMist 44 = .ok (.iload_n 1, 1) := by decide +kernel
theorem dX7_takeMist_45 : decode cX7_takeMist 45 = .ok (.iconst 1, 1) := by decide +kernel
theorem dX7_takeMist_46 : decode cX7_takeMist 46 = .ok (.iadd, 1) := by decide +kernel
theorem dX7_takeMist_47 : decode cX7_takeMist 47 = .ok (.iconst 0, 1) := by decide +kernel
theorem dX7_takeMist_48 : decode cX7_takeMist 48 = .ok (.sipush 999, 3) := by decide +kernel
theorem dX7_takeMist_51 : decode cX7_takeMist 51 = .ok (.invokevirtual 167, 3) := by decide +kernel
theorem dX7_takeMist_54 : decode cX7_takeMist 54 = .ok (.istore_n 2, 1) := by decide +kernel
theorem dX7_takeMist_55 : decode cX7_takeMist 55 = .ok (.iload_n 2, 1) := by decide +kernel
theorem dX7_takeMist_56 : decode cX7_takeMist 56 = .ok (.ifCond .ne 32, 3) := by decide +kernel
theorem dX7_takeMist_59 : decode cX7_takeMist 59 = .ok (.aload_n 0, 1) := by decide +kernel
theorem dX7_takeMist_60 : decode cX7_takeMist 60 = .ok (.getfield 65, 3) := by decide +kernel
theorem dX7_takeMist_63 : decode cX7_takeMist 63 = .ok (.iload_n 1, 1) := by decide +kernel
theorem dX7_takeMist_64 : decode cX7_takeMist 64 = .ok (.iconst 1, 1) := by decide +kernel
theorem dX7_takeMist_65 : decode cX7_takeMist 65 = .ok (.iadd, 1) := by decide +kernel
theorem dX7_takeMist_66 : decode cX7_takeMist 66 = .ok (.iaload, 1) := by decide +kernel
theorem dX7_takeMist_67 : decode cX7_takeMist 67 = .ok (.aload_n 0, 1) := by decide +kernel
theorem dX7_takeMist_68 : decode cX7_takeMist 68 = .ok (.getfield 65, 3) := by decide +kernel
theorem dX7_takeMist_71 : decode cX7_takeMist 71 = .ok (.iload_n 1, 1) := by decide +kernel
theorem dX7_takeMist_72 : decode cX7_takeMist 72 = .ok (.iaload, 1) := by decide +kernel
theorem dX7_takeMist_73 : decode cX7_takeMist 73 = .ok (.if_icmp .ge 15, 3) := by decide +kernel
theorem dX7_takeMist_76 : decode cX7_takeMist 76 = .ok (.aload_n 0, 1) := by decide +kernel
theorem dX7_takeMist_77 : decode cX7_takeMist 77 = .ok (.iconst 4, 1) := by decide +kernel
theorem dX7_takeMist_78 : decode cX7_takeMist 78 = .ok (.aload_n 0, 1) := by decide +kernel
theorem dX7_takeMist_79 : decode cX7_takeMist 79 = .ok (.getfield 149, 3) := by decide +kernel
theorem dX7_takeMist_82 : decode cX7_takeMist 82 = .ok (.invokevirtual 145, 3) := by decide +kernel
theorem dX7_takeMist_85 : decode cX7_takeMist 85 = .ok (.goto 4, 3) := by decide +kernel
theorem dX7_takeMist_88 : decode cX7_takeMist 88 = .ok (.iload_n 2, 1) := by decide +kernel
theorem dX7_takeMist_89 : decode cX7_takeMist 89 = .ok (.istore_n 2, 1) := by decide +kernel
theorem dX7_takeMist_90 : decode cX7_takeMist 90 = .ok (.iload_n 2, 1) := by decide +kernel
theorem dX7_takeMist_91 : decode cX7_takeMist 91 = .ok (.ifCond .le 7, 3) := by decide +kernel
theorem dX7_takeMist_94 : decode cX7_takeMist 94 = .ok (.iload_n 2, 1) := by decide +kernel
theorem dX7_takeMist_95 : decode cX7_takeMist 95 = .ok (.goto 17, 3) := by decide +kernel
theorem dX7_takeMist_98 : decode cX7_takeMist 98 = .ok (.aload_n 0, 1) := by decide +kernel
theorem dX7_takeMist_99 : decode cX7_takeMist 99 = .ok (.aload_n 0, 1) := by decide +kernel
theorem dX7_takeMist_100 : decode cX7_takeMist 100 = .ok (.getfield 65, 3) := by decide +kernel
theorem dX7_takeMist_103 : decode cX7_takeMist 103 = .ok (.iload_n 1, 1) := by decide +kernel
theorem dX7_takeMist_104 : decode cX7_takeMist 104 = .ok (.iconst 2, 1) := by decide +kernel
theorem dX7_takeMist_105 : decode cX7_takeMist 105 = .ok (.iadd, 1) := by decide +kernel
theorem dX7_takeMist_106 : decode cX7_takeMist 106 = .ok (.iconst 0, 1) := by decide +kernel
theorem dX7_takeMist_107 : decode cX7_takeMist 107 = .ok (.bipush 20, 2) := by decide +kernel
theorem dX7_takeMist_109 : decode cX7_takeMist 109 = .ok (.invokevirtual 167, 3) := by decide +kernel
theorem dX7_takeMist_112 : decode cX7_takeMist 112 = .ok (.ireturn, 1) := by decide +kernel
set_option maxRecDepth 20000 in
theorem ggX7_takeStorey_X7_takeNumber : GoodIn wsX7_takeStorey wsX7_takeNumber := goodIn_r _ [8, 9, 10, 11, 12, 1, 13, 14, 15, 16, 17, 7, 18, 19, 20, 21, 22, 23, 24, 25, 26, 27, 28, 29, 30, 31, 32, 33, 34, 35, 36, 37, 38, 39, 40, 41, 42, 43, 44, 45, 46, 47, 48, 49, 50, 51, 52, 53, 54, 55, 56, 57, 58, 59, 60, 61, 62, 63, 64, 65, 66, 67, 68, 69, 70, 71, 72, 73, 74] (by decide +kernel) (by decide +kernel)
set_option maxRecDepth 20000 in
theorem gX7_takeStorey_X7_takeNumber : GoodIn wsX7_takeStorey (wsV RX7 155 RX7 yX7_takeNumber wsX7_takeNumber) := goodIn_app (goodIn_of _ (by decide +kernel)) ggX7_takeStorey_X7_takeNumber
theorem dX7_takeStorey_0 : decode cX7_takeStorey 0 = .ok (.aload_n 0, 1) := by decide +kernel
theorem dX7_takeStorey_1 : decode cX7_takeStorey 1 = .ok (.iconst 1, 1) := by decide +kernel
theorem dX7_takeStorey_2 : decode cX7_takeStorey 2 = .ok (.bipush 20, 2) := by decide +kernel
theorem dX7_takeStorey_4 : decode cX7_takeStorey 4 = .ok (.invokevirtual 155, 3) := by decide +kernel
theorem dX7_takeStorey_7 : decode cX7_takeStorey 7 = .ok (.istore_n 1, 1) := by decide +kernel
theorem dX7_takeStorey_8 : decode cX7_takeStorey 8 = .ok (.aload_n 0, 1) := by decide +kernel
theorem dX7_takeStorey_9 : decode cX7_takeStorey 9 = .ok (.aload_n 0, 1) := by decide +kernel
theorem dX7_takeStorey_10 : decode cX7_takeStorey 10 = .ok (.getfield 152, 3) := by decide +kernel
theorem dX7_takeStorey_13 : decode cX7_takeStorey 13 = .ok (.putfield 174, 3) := by decide +kernel
theorem dX7_takeStorey_16 : decode cX7_takeStorey 16 = .ok (.iload_n 1, 1) := by decide +kernel
theorem dX7_takeStorey_17 : decode cX7_takeStorey 17 = .ok (.ifCond .le 7, 3) := by decide +kernel
theorem dX7_takeStorey_20 : decode cX7_takeStorey 20 = .ok (.iload_n 1, 1) := by decide +kernel
theorem dX7_takeStorey_21 : decode cX7_takeStorey 21 = .ok (.goto 11, 3) := by decide +kernel
theorem dX7_takeStorey_24 : decode cX7_takeStorey 24 = .ok (.aload_n 0, 1) := by decide +kernel
theorem dX7_takeStorey_25 : decode cX7_takeStorey 25 = .ok (.iconst 0, 1) := by decide +kernel
theorem dX7_takeStorey_26 : decode cX7_takeStorey 26 = .ok (.sipush 999, 3) := by decide +kernel
theorem dX7_takeStorey_29 : decode cX7_takeStorey 29 = .ok (.invokevirtual 155, 3) := by decide +kernel
theorem dX7_takeStorey_32 : decode cX7_takeStorey 32 = .ok (.istore_n 1, 1) := by decide +kernel
theorem dX7_takeStorey_33 : decode cX7_takeStorey 33 = .ok (.aload_n 0, 1) := by decide +kernel
theorem dX7_takeStorey_34 : decode cX7_takeStorey 34 = .ok (.aload_n 0, 1) := by decide +kernel
theorem dX7_takeStorey_35 : decode cX7_takeStorey 35 = .ok (.getfield 152, 3) := by decide +kernel
theorem dX7_takeStorey_38 : decode cX7_takeStorey 38 = .ok (.putfield 177, 3) := by decide +kernel
theorem dX7_takeStorey_41 : decode cX7_takeStorey 41 = .ok (.iload_n 1, 1) := by decide +kernel
theorem dX7_takeStorey_42 : decode cX7_takeStorey 42 = .ok (.ireturn, 1) := by decide +kernel
set_option maxRecDepth 20000 in
theorem ggX7_takeKind_X7_takeLake : GoodIn wsX7_takeKind wsX7_takeLake := goodIn_r _ [9, 10, 11, 12, 13, 14, 15, 16, 8, 17, 18, 19, 20, 21, 22, 23, 24, 25, 26, 27, 28, 29, 30, 31, 32, 33, 34, 63, 64, 65, 66, 67, 68, 69, 70, 71, 72, 73, 74, 75, 76, 77, 78, 79, 80, 81, 82, 83, 84, 85, 86, 87, 88, 89, 90, 91, 92, 93, 94, 95, 96, 97, 98, 99, 100, 101, 102, 103, 104, 105, 106, 107, 108, 109, 110] (by decide +kernel) (by decide +kernel)
set_option maxRecDepth 20000 in
theorem gX7_takeKind_X7_takeLake : GoodIn wsX7_takeKind (wsV RX7 180 RX7 yX7_takeLake wsX7_takeLake) := goodIn_app (goodIn_of _ (by decide +kernel)) ggX7_takeKind_X7_takeLake
set_option maxRecDepth 20000 in
theorem ggX7_takeKind_X7_takeDoor : GoodIn wsX7_takeKind wsX7_takeDoor := goodIn_r _ [38, 39, 40, 12, 41, 42, 43, 44, 45, 8, 46, 10, 14, 15, 16, 17, 18, 19, 20, 11, 21, 22, 23, 24, 25, 26, 27, 28, 29, 30, 31, 32, 33, 34, 63, 64, 65, 66, 67, 68, 69, 70, 71, 72, 73, 74, 75, 76, 77, 78, 79, 80, 81, 82, 83, 84, 85, 86, 87, 88, 89, 90, 91, 92, 93, 94, 95, 96, 97, 98, 99, 100, 101, 102, 103, 104, 105, 106, 107, 108, 109, 110] (by decide +kernel) (by decide +kernel)
set_option maxRecDepth 20000 in
theorem gX7_takeKind_X7_takeDoor : GoodIn wsX7_takeKind (wsV RX7 183 RX7 yX7_takeDoor wsX7_takeDoor) := goodIn_app (goodIn_of _ (by decide +kernel)) ggX7_takeKind_X7_takeDoor
set_option maxRecDepth 20000 in
theorem ggX7_takeKind_X7_takeCell : GoodIn wsX7_takeKind wsX7_takeCell := goodIn_r _ [50, 12, 10, 13, 11, 14, 15, 16, 8, 17, 18, 19, 20, 21, 22, 23, 24, 25, 26, 27, 28, 29, 30, 31, 32, 33, 34, 43, 44, 45, 46, 63, 64, 65, 66, 67, 68, 69, 70, 71, 72, 73, 74, 75, 76, 77, 78, 79, 80, 81, 82, 83, 84, 85, 86, 87, 88, 89, 90, 91, 92, 93, 94, 95, 96, 97, 98, 99, 100, 101, 102, 103, 104, 105, 106, 107, 108, 109, 110] (by decide +kernel) (by decide +kernel)
set_option maxRecDepth 20000 in
theorem gX7_takeKind_X7_takeCell : GoodIn wsX7_takeKind (wsV RX7 189 RX7 yX7_takeCell wsX7_takeCell) := goodIn_app (goodIn_of _ (by decide +kernel)) ggX7_takeKind_X7_takeCell
set_option maxRecDepth 20000 in
theorem ggX7_takeKind_X7_takeMist : GoodIn wsX7_takeKind wsX7_takeMist := goodIn_r _ [54, 55, 56, 11, 43, 44, 45, 8, 46, 10, 14, 15, 16, 17, 18, 19, 20, 21, 22, 23, 24, 25, 26, 27, 28, 29, 30, 31, 32, 33, 34, 63, 64, 65, 66, 67, 68, 69, 70, 71, 72, 73, 74, 75, 76, 77, 78, 79, 80, 81, 82, 83, 84, 85, 86, 87, 88, 89, 90, 91, 92, 93, 94, 95, 96, 97, 98, 99, 100, 101, 102, 103, 104, 105, 106, 107, 108, 109, 110] (by decide +kernel) (by decide +kernel)
set_option maxRecDepth 20000 in
theorem gX7_takeKind_X7_takeMist : GoodIn wsX7_takeKind (wsV RX7 196 RX7 yX7_takeMist wsX7_takeMist) := goodIn_app (goodIn_of _ (by decide +kernel)) ggX7_takeKind_X7_takeMist
set_option maxRecDepth 20000 in
theorem ggX7_takeKind_X7_takeStorey : GoodIn wsX7_takeKind wsX7_takeStorey := goodIn_r _ [60, 10, 61, 62, 14, 15, 16, 8, 17, 18, 19, 20, 11, 21, 22, 23, 24, 25, 26, 27, 28, 29, 30, 31, 32, 33, 34, 63, 64, 65, 66, 67, 68, 69, 70, 71, 72, 73, 74, 75, 76, 77, 78, 79, 80, 81, 82, 83, 84, 85, 86, 87, 88, 89, 90, 91, 92, 93, 94, 95, 96, 97, 98, 99, 100, 101, 102, 103, 104, 105, 106, 107, 108, 109, 110] (by decide +kernel) (by decide +kernel)
set_option maxRecDepth 20000 in
theorem gX7_takeKind_X7_takeStorey : GoodIn wsX7_takeKind (wsV RX7 199 RX7 yX7_takeStorey wsX7_takeStorey) := goodIn_app (goodIn_of _ (by decide +kernel)) ggX7_takeKind_X7_takeStorey
theorem dX7_takeKind_0 : decode cX7_takeKind 0 = .ok (.iload_n 1, 1) := by decide +kernel
theorem dX7_takeKind_1 : decode cX7_takeKind 1 = .ok (.ifCond .ne 8, 3) := by decide +kernel
theorem dX7_takeKind_4 : decode cX7_takeKind 4 = .ok (.aload_n 0, 1) := by decide +kernel
theorem dX7_takeKind_5 : decode cX7_takeKind 5 = .ok (.invokevirtual 180, 3) := by decide +kernel
theorem dX7_takeKind_8 : decode cX7_takeKind 8 = .ok (.ireturn, 1) := by decide +kernel
theorem dX7_takeKind_9 : decode cX7_takeKind 9 = .ok (.iload_n 1, 1) := by decide +kernel
theorem dX7_takeKind_10 : decode cX7_takeKind 10 = .ok (.iconst 1, 1) := by decide +kernel
theorem dX7_takeKind_11 : decode cX7_takeKind 11 = .ok (.if_icmp .ne 8, 3) := by decide +kernel
theorem dX7_takeKind_14 : decode cX7_takeKind 14 = .ok (.aload_n 0, 1) := by decide +kernel
theorem dX7_takeKind_15 : decode cX7_takeKind 15 = .ok (.invokevirtual 183, 3) := by decide +kernel
theorem dX7_takeKind_18 : decode cX7_takeKind 18 = .ok (.ireturn, 1) := by decide +kernel
theorem dX7_takeKind_19 : decode cX7_takeKind 19 = .ok (.iload_n 1, 1) := by decide +kernel
theorem dX7_takeKind_20 : decode cX7_takeKind 20 = .ok (.iconst 2, 1) := by decide +kernel
theorem dX7_takeKind_21 : decode cX7_takeKind 21 = .ok (.if_icmp .ne 23, 3) := by decide +kernel
theorem dX7_takeKind_24 : decode cX7_takeKind 24 = .ok (.aload_n 0, 1) := by decide +kernel
theorem dX7_takeKind_25 : decode cX7_takeKind 25 = .ok (.dup, 1) := by decide +kernel
theorem dX7_takeKind_26 : decode cX7_takeKind 26 = .ok (.getfield 186, 3) := by decide +kernel
theorem dX7_takeKind_29 : decode cX7_takeKind 29 = .ok (.iconst 1, 1) := by decide +kernel
theorem dX7_takeKind_30 : decode cX7_takeKind 30 = .ok (.iadd, 1) := by decide +kernel
theorem dX7_takeKind_31 : decode cX7_takeKind 31 = .ok (.putfield 186, 3) := by decide +kernel
theorem dX7_takeKind_34 : decode cX7_takeKind 34 = .ok (.aload_n 0, 1) := by decide +kernel
theorem dX7_takeKind_35 : decode cX7_takeKind 35 = .ok (.aload_n 0, 1) := by decide +kernel
theorem dX7_takeKind_36 : decode cX7_takeKind 36 = .ok (.getfield 59, 3) := by decide +kernel
theorem dX7_takeKind_39 : decode cX7_takeKind 39 = .ok (.iconst 1, 1) := by decide +kernel
theorem dX7_takeKind_40 : decode cX7_takeKind 40 = .ok (.invokevirtual 189, 3) := by decide +kernel
theorem dX7_takeKind_43 : decode cX7_takeKind 43 = .ok (.ireturn, 1) := by decide +kernel
theorem dX7_takeKind_44 : decode cX7_takeKind 44 = .ok (.iload_n 1, 1) := by decide +kernel
theorem dX7_takeKind_45 : decode cX7_takeKind 45 = .ok (.iconst 3, 1) := by decide +kernel
theorem dX7_takeKind_46 : decode cX7_takeKind 46 = .ok (.if_icmp .ne 23, 3) := by decide +kernel
theorem dX7_takeKind_49 : decode cX7_takeKind 49 = .ok (.aload_n 0, 1) := by decide +kernel
theorem dX7_takeKind_50 : decode cX7_takeKind 50 = .ok (.dup, 1) := by decide +kernel
theorem dX7_takeKind_51 : decode cX7_takeKind 51 = .ok (.getfield 193, 3) := by decide +kernel
theorem dX7_takeKind_54 : decode cX7_takeKind 54 = .ok (.iconst 1, 1) := by decide +kernel
theorem dX7_takeKind_55 : decode cX7_takeKind 55 = .ok (.iadd, 1) := by decide +kernel
theorem dX7_takeKind_56 : decode cX7_takeKind 56 = .ok (.putfield 193, 3) := by decide +kernel
theorem dX7_takeKind_59 : decode cX7_takeKind 59 = .ok (.aload_n 0, 1) := by decide +kernel
theorem dX7_takeKind_60 : decode cX7_takeKind 60 = .ok (.aload_n 0, 1) := by decide +kernel
theorem dX7_takeKind_61 : decode cX7_takeKind 61 = .ok (.getfield 62, 3) := by decide +kernel
theorem dX7_takeKind_64 : decode cX7_takeKind 64 = .ok (.iconst 0, 1) := by decide +kernel
theorem dX7_takeKind_65 : decode cX7_takeKind 65 = .ok (.invokevirtual 189, 3) := by decide +kernel
theorem dX7_takeKind_68 : decode cX7_takeKind 68 = .ok (.ireturn, 1) := by decide +kernel
theorem dX7_takeKind_69 : decode cX7_takeKind 69 = .ok (.iload_n 1, 1) := by decide +kernel
theorem dX7_takeKind_70 : decode cX7_takeKind 70 = .ok (.iconst 4, 1) := by decide +kernel
theorem dX7_takeKind_71 : decode cX7_takeKind 71 = .ok (.if_icmp .ne 10, 3) := by decide +kernel
theorem dX7_takeKind_74 : decode cX7_takeKind 74 = .ok (.aload_n 0, 1) := by decide +kernel
theorem dX7_takeKind_75 : decode cX7_takeKind 75 = .ok (.invokevirtual 196, 3) := by decide +kernel
theorem dX7_takeKind_78 : decode cX7_takeKind 78 = .ok (.goto 7, 3) := by decide +kernel
theorem dX7_takeKind_81 : decode cX7_takeKind 81 = .ok (.aload_n 0, 1) := by decide +kernel
theorem dX7_takeKind_82 : decode cX7_takeKind 82 = .ok (.invokevirtual 199, 3) := by decide +kernel
theorem dX7_takeKind_85 : decode cX7_takeKind 85 = .ok (.ireturn, 1) := by decide +kernel
set_option maxRecDepth 20000 in
theorem ggX7_takeClause_X7_readWord : GoodIn wsX7_takeClause wsX7_readWord := goodIn_r _ [14, 1, 3, 9, 15, 16, 17, 18, 19, 20, 21, 22, 23, 24, 25, 13, 26, 27, 28, 29, 85, 86, 87, 88, 89, 90, 91, 92, 93, 94, 95, 96, 97, 98, 99, 100, 101, 102, 103, 104, 105, 106, 107, 108, 109, 110, 111, 112, 113, 114, 115, 116, 117, 118, 119, 120, 121, 122, 123, 124, 125, 126, 127, 128, 129, 130, 131, 132] (by decide +kernel) (by decide +kernel)
set_option maxRecDepth 20000 in
theorem gX7_takeClause_X7_readWord : GoodIn wsX7_takeClause (wsV RX7 202 RX7 yX7_readWord wsX7_readWord) := goodIn_app (goodIn_of _ (by decide +kernel)) ggX7_takeClause_X7_readWord
set_option maxRecDepth 20000 in
theorem ggX7_takeClause_X7_code : GoodIn wsX7_takeClause wsX7_code := goodIn_r _ [32, 21, 22] (by decide +kernel) (by decide +kernel)
set_option maxRecDepth 20000 in
theorem gX7_takeClause_X7_code : GoodIn wsX7_takeClause (va_wsS RX7 205 yX7_code wsX7_code) := goodIn_app (goodIn_of _ (by decide +kernel)) ggX7_takeClause_X7_code
set_option maxRecDepth 20000 in
theorem ggX7_takeClause_X7_longer : GoodIn wsX7_takeClause wsX7_longer := goodIn_r _ [35, 21, 22] (by decide +kernel) (by decide +kernel)
set_option maxRecDepth 20000 in
theorem gX7_takeClause_X7_longer : GoodIn wsX7_takeClause (va_wsS RX7 209 yX7_longer wsX7_longer) := goodIn_app (goodIn_of _ (by decide +kernel)) ggX7_takeClause_X7_longer
set_option maxRecDepth 20000 in
theorem ggX7_takeClause_X7_fails : GoodIn wsX7_takeClause wsX7_fails := goodIn_r _ [39, 40, 85, 86, 87, 88, 89, 90, 91, 92, 93, 94, 95, 96, 97, 98, 99, 100, 101, 102, 103, 104, 105, 106, 107, 108, 109, 110, 111, 112, 113, 114, 115, 116, 117, 118, 119, 120, 121, 122, 123, 124, 125, 126, 127, 128, 129, 130, 131, 132] (by decide +kernel) (by decide +kernel)
set_option maxRecDepth 20000 in
theorem gX7_takeClause_X7_fails : GoodIn wsX7_takeClause (wsV RX7 145 RX7 yX7_fails wsX7_fails) := goodIn_app (goodIn_of _ (by decide +kernel)) ggX7_takeClause_X7_fails
set_option maxRecDepth 20000 in
theorem ggX7_takeClause_X7_takeKind : GoodIn wsX7_takeClause wsX7_takeKind := goodIn_r _ [44, 5, 45, 6, 46, 47, 48, 49, 13, 50, 51, 52, 2, 53, 54, 55, 56, 57, 58, 59, 3, 15, 16, 23, 24, 25, 26, 27, 28, 29, 36, 37, 38, 39, 40, 60, 61, 62, 63, 4, 64, 65, 66, 67, 68, 69, 70, 71, 72, 73, 74, 75, 76, 77, 78, 7, 79, 80, 81, 82, 83, 8, 84, 85, 86, 87, 88, 89, 90, 91, 92, 93, 94, 95, 96, 97, 98, 99, 100, 101, 102, 103, 104, 105, 106, 107, 108, 109, 110, 111, 112, 113, 114, 115, 116, 117, 118, 119, 120, 121, 122, 123, 124, 125, 126, 127, 128, 129, 130, 131, 132] (by decide +kernel) (by decide +kernel)
set_option maxRecDepth 20000 in
theorem gX7_takeClause_X7_takeKind : GoodIn wsX7_takeClause (wsV RX7 213 RX7 yX7_takeKind wsX7_takeKind) := goodIn_app (goodIn_of _ (by decide +kernel)) ggX7_takeClause_X7_takeKind
set_option maxRecDepth 20000 in
theorem ggX7_takeClause_X7_here : GoodIn wsX7_takeClause wsX7_here := goodIn_r _ [26, 3, 15, 16, 85, 86, 87, 88, 89, 90, 91, 92, 93, 94, 95, 96, 97, 98, 99, 100, 101, 102, 103, 104, 105, 106, 107, 108, 109, 110, 111, 112, 113, 114, 115, 116, 117, 118, 119, 120, 121, 122, 123, 124, 125, 126, 127, 128, 129, 130, 131, 132] (by decide +kernel) (by decide +kernel)
set_option maxRecDepth 20000 in
theorem gX7_takeClause_X7_here : GoodIn wsX7_takeClause (wsV RX7 118 RX7 yX7_here wsX7_here) := goodIn_app (goodIn_of _ (by decide +kernel)) ggX7_takeClause_X7_here
theorem dX7_takeClause_0 : decode cX7_takeClause 0 = .ok (.aload_n 0, 1) := by decide +kernel
theorem dX7_takeClause_1 : decode cX7_takeClause 1 = .ok (.invokevirtual 202, 3) := by decide +kernel
theorem dX7_takeClause_4 : decode cX7_takeClause 4 = .ok (.aload_n 0, 1) := by decide +kernel
theorem dX7_takeClause_5 : decode cX7_takeClause 5 = .ok (.getfield 122, 3) := by decide +kernel
theorem dX7_takeClause_8 : decode cX7_takeClause 8 = .ok (.bipush 108, 2) := by decide +kernel
theorem dX7_takeClause_10 : decode cX7_takeClause 10 = .ok (.bipush 97, 2) := by decide +kernel
theorem dX7_takeClause_12 : decode cX7_takeClause 12 = .ok (.bipush 107, 2) := by decide +kernel
theorem dX7_takeClause_14 : decode cX7_takeClause 14 = .ok (.bipush 101, 2) := by decide +kernel
theorem dX7_takeClause_16 : decode cX7_takeClause 16 = .ok (.invokestatic 205, 3) := by decide +kernel
theorem dX7_takeClause_19 : decode cX7_takeClause 19 = .ok (.lcmp, 1) := by decide +kernel
theorem dX7_takeClause_20 : decode cX7_takeClause 20 = .ok (.ifCond .ne 7, 3) := by decide +kernel
theorem dX7_takeClause_23 : decode cX7_takeClause 23 = .ok (.iconst 0, 1) := by decide +kernel
theorem dX7_takeClause_24 : decode cX7_takeClause 24 = .ok (.goto 55, 3) := by decide +kernel
theorem dX7_takeClause_27 : decode cX7_takeClause 27 = .ok (.aload_n 0, 1) := by decide +kernel
theorem dX7_takeClause_28 : decode cX7_takeClause 28 = .ok (.getfield 122, 3) := by decide +kernel
theorem dX7_takeClause_31 : decode cX7_takeClause 31 = .ok (.bipush 100, 2) := by decide +kernel
theorem dX7_takeClause_33 : decode cX7_takeClause 33 = .ok (.bipush 111, 2) := by decide +kernel
theorem dX7_takeClause_35 : decode cX7_takeClause 35 = .ok (.bipush 111, 2) := by decide +kernel
theorem dX7_takeClause_37 : decode cX7_takeClause 37 = .ok (.bipush 114, 2) := by decide +kernel
theorem dX7_takeClause_39 : decode cX7_takeClause 39 = .ok (.invokestatic 205, 3) := by decide +kernel
theorem dX7_takeClause_42 : decode cX7_takeClause 42 = .ok (.lcmp, 1) := by decide +kernel
theorem dX7_takeClause_43 : decode cX7_takeClause 43 = .ok (.ifCond .ne 7, 3) := by decide +kernel
theorem dX7_takeClause_46 : decode cX7_takeClause 46 = .ok (.iconst 1, 1) := by decide +kernel
theorem dX7_takeClause_47 : decode cX7_takeClause 47 = .ok (.goto 32, 3) := by decide +kernel
theorem dX7_takeClause_50 : decode cX7_takeClause 50 = .ok (.aload_n 0, 1) := by decide +kernel
theorem dX7_takeClause_51 : decode cX7_takeClause 51 = .ok (.getfield 122, 3) := by decide +kernel
theorem dX7_takeClause_54 : decode cX7_takeClause 54 = .ok (.bipush 115, 2) := by decide +kernel
theorem dX7_takeClause_56 : decode cX7_takeClause 56 = .ok (.bipush 116, 2) := by decide +kernel
theorem dX7_takeClause_58 : decode cX7_takeClause 58 = .ok (.bipush 97, 2) := by decide +kernel
theorem dX7_takeClause_60 : decode cX7_takeClause 60 = .ok (.bipush 110, 2) := by decide +kernel
theorem dX7_takeClause_62 : decode cX7_takeClause 62 = .ok (.invokestatic 205, 3) := by decide +kernel
theorem dX7_takeClause_65 : decode cX7_takeClause 65 = .ok (.bipush 100, 2) := by decide +kernel
theorem dX7_takeClause_67 : decode cX7_takeClause 67 = .ok (.invokestatic 209, 3) := by decide +kernel
theorem dX7_takeClause_70 : decode cX7_takeClause 70 = .ok (.lcmp, 1) := by decide +kernel
theorem dX7_takeClause_71 : decode cX7_takeClause 71 = .ok (.ifCond .ne 7, 3) := by decide +kernel
theorem dX7_takeClause_74 : decode cX7_takeClause 74 = .ok (.iconst 2, 1) := by decide +kernel
theorem dX7_takeClause_75 : decode cX7_takeClause 75 = .ok (.goto 4, 3) := by decide +kernel
theorem dX7_takeClause_78 : decode cX7_takeClause 78 = .ok (.iconst (-1), 1) := by decide +kernel
theorem dX7_takeClause_79 : decode cX7_takeClause 79 = .ok (.istore_n 1, 1) := by decide +kernel
theorem dX7_takeClause_80 : decode cX7_takeClause 80 = .ok (.iload_n 1, 1) := by decide +kernel
theorem dX7_takeClause_81 : decode cX7_takeClause 81 = .ok (.ifCond .lt 7, 3) := by decide +kernel
theorem dX7_takeClause_84 : decode cX7_takeClause 84 = .ok (.iload_n 1, 1) := by decide +kernel
theorem dX7_takeClause_85 : decode cX7_takeClause 85 = .ok (.goto 83, 3) := by decide +kernel
theorem dX7_takeClause_88 : decode cX7_takeClause 88 = .ok (.aload_n 0, 1) := by decide +kernel
theorem dX7_takeClause_89 : decode cX7_takeClause 89 = .ok (.getfield 122, 3) := by decide +kernel
theorem dX7_takeClause_92 : decode cX7_takeClause 92 = .ok (.bipush 102, 2) := by decide +kernel
theorem dX7_takeClause_94 : decode cX7_takeClause 94 = .ok (.bipush 105, 2) := by decide +kernel
theorem dX7_takeClause_96 : decode cX7_takeClause 96 = .ok (.bipush 115, 2) := by decide +kernel
theorem dX7_takeClause_98 : decode cX7_takeClause 98 = .ok (.bipush 104, 2) := by decide +kernel
theorem dX7_takeClause_100 : decode cX7_takeClause 100 = .ok (.invokestatic 205, 3) := by decide +kernel
theorem dX7_takeClause_103 : decode cX7_takeClause 103 = .ok (.lcmp, 1) := by decide +kernel
theorem dX7_takeClause_104 : decode cX7_takeClause 104 = .ok (.ifCond .ne 7, 3) := by decide +kernel
theorem dX7_takeClause_107 : decode cX7_takeClause 107 = .ok (.iconst 3, 1) := by decide +kernel
theorem dX7_takeClause_108 : decode cX7_takeClause 108 = .ok (.goto 60, 3) := by decide +kernel
theorem dX7_takeClause_111 : decode cX7_takeClause 111 = .ok (.aload_n 0, 1) := by decide +kernel
theorem dX7_takeClause_112 : decode cX7_takeClause 112 = .ok (.getfield 122, 3) := by decide +kernel
theorem dX7_takeClause_115 : decode cX7_takeClause 115 = .ok (.bipush 109, 2) := by decide +kernel
theorem dX7_takeClause_117 : decode cX7_takeClause 117 = .ok (.bipush 105, 2) := by decide +kernel
theorem dX7_takeClause_119 : decode cX7_takeClause 119 = .ok (.bipush 115, 2) := by decide +kernel
theorem dX7_takeClause_121 : decode cX7_takeClause 121 = .ok (.bipush 116, 2) := by decide +kernel
theorem dX7_takeClause_123 : decode cX7_takeClause 123 = .ok (.invokestatic 205, 3) := by decide +kernel
theorem dX7_takeClause_126 : decode cX7_takeClause 126 = .ok (.lcmp, 1) := by decide +kernel
theorem dX7_takeClause_127 : decode cX7_takeClause 127 = .ok (.ifCond .ne 7, 3) := by decide +kernel
theorem dX7_takeClause_130 : decode cX7_takeClause 130 = .ok (.iconst 4, 1) := by decide +kernel
theorem dX7_takeClause_131 : decode cX7_takeClause 131 = .ok (.goto 37, 3) := by decide +kernel
theorem dX7_takeClause_134 : decode cX7_takeClause 134 = .ok (.aload_n 0, 1) := by decide +kernel
theorem dX7_takeClause_135 : decode cX7_takeClause 135 = .ok (.getfield 122, 3) := by decide +kernel
theorem dX7_takeClause_138 : decode cX7_takeClause 138 = .ok (.bipush 115, 2) := by decide +kernel
theorem dX7_takeClause_140 : decode cX7_takeClause 140 = .ok (.bipush 116, 2) := by decide +kernel
theorem dX7_takeClause_142 : decode cX7_takeClause 142 = .ok (.bipush 111, 2) := by decide +kernel
theorem dX7_takeClause_144 : decode cX7_takeClause 144 = .ok (.bipush 114, 2) := by decide +kernel
theorem dX7_takeClause_146 : decode cX7_takeClause 146 = .ok (.invokestatic 205, 3) := by decide +kernel
theorem dX7_takeClause_149 : decode cX7_takeClause 149 = .ok (.bipush 101, 2) := by decide +kernel
theorem dX7_takeClause_151 : decode cX7_takeClause 151 = .ok (.invokestatic 209, 3) := by decide +kernel
theorem dX7_takeClause_154 : decode cX7_takeClause 154 = .ok (.bipush 121, 2) := by decide +kernel
theorem dX7_takeClause_156 : decode cX7_takeClause 156 = .ok (.invokestatic 209, 3) := by decide +kernel
theorem dX7_takeClause_159 : decode cX7_takeClause 159 = .ok (.lcmp, 1) := by decide +kernel
theorem dX7_takeClause_160 : decode cX7_takeClause 160 = .ok (.ifCond .ne 7, 3) := by decide +kernel
theorem dX7_takeClause_163 : decode cX7_takeClause 163 = .ok (.iconst 5, 1) := by decide +kernel
theorem dX7_takeClause_164 : decode cX7_takeClause 164 = .ok (.goto 4, 3) := by decide +kernel
theorem dX7_takeClause_167 : decode cX7_takeClause 167 = .ok (.iconst (-1), 1) := by decide +kernel
theorem dX7_takeClause_168 : decode cX7_takeClause 168 = .ok (.istore_n 2, 1) := by decide +kernel
theorem dX7_takeClause_169 : decode cX7_takeClause 169 = .ok (.iload_n 2, 1) := by decide +kernel
theorem dX7_takeClause_170 : decode cX7_takeClause 170 = .ok (.ifCond .lt 14, 3) := by decide +kernel
theorem dX7_takeClause_173 : decode cX7_takeClause 173 = .ok (.iload_n 2, 1) := by decide +kernel
theorem dX7_takeClause_174 : decode cX7_takeClause 174 = .ok (.ifCond .le 20, 3) := by decide +kernel
theorem dX7_takeClause_177 : decode cX7_takeClause 177 = .ok (.aload_n 0, 1) := by decide +kernel
theorem dX7_takeClause_178 : decode cX7_takeClause 178 = .ok (.getfield 158, 3) := by decide +kernel
theorem dX7_takeClause_181 : decode cX7_takeClause 181 = .ok (.ifCond .ne 13, 3) := by decide +kernel
theorem dX7_takeClause_184 : decode cX7_takeClause 184 = .ok (.aload_n 0, 1) := by decide +kernel
theorem dX7_takeClause_185 : decode cX7_takeClause 185 = .ok (.iconst 1, 1) := by decide +kernel
theorem dX7_takeClause_186 : decode cX7_takeClause 186 = .ok (.aload_n 0, 1) := by decide +kernel
theorem dX7_takeClause_187 : decode cX7_takeClause 187 = .ok (.getfield 115, 3) := by decide +kernel
theorem dX7_takeClause_190 : decode cX7_takeClause 190 = .ok (.invokevirtual 145, 3) := by decide +kernel
theorem dX7_takeClause_193 : decode cX7_takeClause 193 = .ok (.ireturn, 1) := by decide +kernel
theorem dX7_takeClause_194 : decode cX7_takeClause 194 = .ok (.iload_n 2, 1) := by decide +kernel
theorem dX7_takeClause_195 : decode cX7_takeClause 195 = .ok (.ifCond .ne 18, 3) := by decide +kernel
theorem dX7_takeClause_198 : decode cX7_takeClause 198 = .ok (.aload_n 0, 1) := by decide +kernel
theorem dX7_takeClause_199 : decode cX7_takeClause 199 = .ok (.getfield 158, 3) := by decide +kernel
theorem dX7_takeClause_202 : decode cX7_takeClause 202 = .ok (.ifCond .le 7, 3) := by decide +kernel
theorem dX7_takeClause_205 : decode cX7_takeClause 205 = .ok (.iconst 1, 1) := by decide +kernel
theorem dX7_takeClause_206 : decode cX7_takeClause 206 = .ok (.goto 107, 3) := by decide +kernel
theorem dX7_takeClause_209 : decode cX7_takeClause 209 = .ok (.iconst 0, 1) := by decide +kernel
theorem dX7_takeClause_210 : decode cX7_takeClause 210 = .ok (.goto 103, 3) := by decide +kernel
theorem dX7_takeClause_213 : decode cX7_takeClause 213 = .ok (.iload_n 2, 1) := by decide +kernel
theorem dX7_takeClause_214 : decode cX7_takeClause 214 = .ok (.iconst 1, 1) := by decide +kernel
theorem dX7_takeClause_215 : decode cX7_takeClause 215 = .ok (.if_icmp .ne 20, 3) := by decide +kernel
theorem dX7_takeClause_218 : decode cX7_takeClause 218 = .ok (.aload_n 0, 1) := by decide +kernel
theorem dX7_takeClause_219 : decode cX7_takeClause 219 = .ok (.getfield 164, 3) := by decide +kernel
theorem dX7_takeClause_222 : decode cX7_takeClause 222 = .ok (.bipush 6, 2) := by decide +kernel
theorem dX7_takeClause_224 : decode cX7_takeClause 224 = .ok (.if_icmp .ne 7, 3) := by decide +kernel
theorem dX7_takeClause_227 : decode cX7_takeClause 227 = .ok (.iconst 1, 1) := by decide +kernel
theorem dX7_takeClause_228 : decode cX7_takeClause 228 = .ok (.goto 85, 3) := by decide +kernel
theorem dX7_takeClause_231 : decode cX7_takeClause 231 = .ok (.iconst 0, 1) := by decide +kernel
theorem dX7_takeClause_232 : decode cX7_takeClause 232 = .ok (.goto 81, 3) := by decide +kernel
theorem dX7_takeClause_235 : decode cX7_takeClause 235 = .ok (.iload_n 2, 1) := by decide +kernel
theorem dX7_takeClause_236 : decode cX7_takeClause 236 = .ok (.iconst 2, 1) := by decide +kernel
theorem dX7_takeClause_237 : decode cX7_takeClause 237 = .ok (.if_icmp .ne 20, 3) := by decide +kernel
theorem dX7_takeClause_240 : decode cX7_takeClause 240 = .ok (.aload_n 0, 1) := by decide +kernel
theorem dX7_takeClause_241 : decode cX7_takeClause 241 = .ok (.getfield 186, 3) := by decide +kernel
theorem dX7_takeClause_244 : decode cX7_takeClause 244 = .ok (.bipush 30, 2) := by decide +kernel
theorem dX7_takeClause_246 : decode cX7_takeClause 246 = .ok (.if_icmp .ne 7, 3) := by decide +kernel
theorem dX7_takeClause_249 : decode cX7_takeClause 249 = .ok (.iconst 1, 1) := by decide +kernel
theorem dX7_takeClause_250 : decode cX7_takeClause 250 = .ok (.goto 63, 3) := by decide +kernel
theorem dX7_takeClause_253 : decode cX7_takeClause 253 = .ok (.iconst 0, 1) := by decide +kernel
theorem dX7_takeClause_254 : decode cX7_takeClause 254 = .ok (.goto 59, 3) := by decide +kernel
theorem dX7_takeClause_257 : decode cX7_takeClause 257 = .ok (.iload_n 2, 1) := by decide +kernel
theorem dX7_takeClause_258 : decode cX7_takeClause 258 = .ok (.iconst 3, 1) := by decide +kernel
theorem dX7_takeClause_259 : decode cX7_takeClause 259 = .ok (.if_icmp .ne 20, 3) := by decide +kernel
theorem dX7_takeClause_262 : decode cX7_takeClause 262 = .ok (.aload_n 0, 1) := by decide +kernel
theorem dX7_takeClause_263 : decode cX7_takeClause 263 = .ok (.getfield 193, 3) := by decide +kernel
theorem dX7_takeClause_266 : decode cX7_takeClause 266 = .ok (.bipush 30, 2) := by decide +kernel
theorem dX7_takeClause_268 : decode cX7_takeClause 268 = .ok (.if_icmp .ne 7, 3) := by decide +kernel
theorem dX7_takeClause_271 : decode cX7_takeClause 271 = .ok (.iconst 1, 1) := by decide +kernel
theorem dX7_takeClause_272 : decode cX7_takeClause 272 = .ok (.goto 41, 3) := by decide +kernel
theorem dX7_takeClause_275 : decode cX7_takeClause 275 = .ok (.iconst 0, 1) := by decide +kernel
theorem dX7_takeClause_276 : decode cX7_takeClause 276 = .ok (.goto 37, 3) := by decide +kernel
theorem dX7_takeClause_279 : decode cX7_takeClause 279 = .ok (.iload_n 2, 1) := by decide +kernel
theorem dX7_takeClause_280 : decode cX7_takeClause 280 = .ok (.iconst 4, 1) := by decide +kernel
theorem dX7_takeClause_281 : decode cX7_takeClause 281 = .ok (.if_icmp .ne 20, 3) := by decide +kernel
theorem dX7_takeClause_284 : decode cX7_takeClause 284 = .ok (.aload_n 0, 1) := by decide +kernel
theorem dX7_takeClause_285 : decode cX7_takeClause 285 = .ok (.getfield 171, 3) := by decide +kernel
theorem dX7_takeClause_288 : decode cX7_takeClause 288 = .ok (.bipush 10, 2) := by decide +kernel
theorem dX7_takeClause_290 : decode cX7_takeClause 290 = .ok (.if_icmp .ne 7, 3) := by decide +kernel
theorem dX7_takeClause_293 : decode cX7_takeClause 293 = .ok (.iconst 1, 1) := by decide +kernel
theorem dX7_takeClause_294 : decode cX7_takeClause 294 = .ok (.goto 19, 3) := by decide +kernel
theorem dX7_takeClause_297 : decode cX7_takeClause 297 = .ok (.iconst 0, 1) := by decide +kernel
theorem dX7_takeClause_298 : decode cX7_takeClause 298 = .ok (.goto 15, 3) := by decide +kernel
theorem dX7_takeClause_301 : decode cX7_takeClause 301 = .ok (.aload_n 0, 1) := by decide +kernel
theorem dX7_takeClause_302 : decode cX7_takeClause 302 = .ok (.getfield 174, 3) := by decide +kernel
theorem dX7_takeClause_305 : decode cX7_takeClause 305 = .ok (.ifCond .le 7, 3) := by decide +kernel
theorem dX7_takeClause_308 : decode cX7_takeClause 308 = .ok (.iconst 1, 1) := by decide +kernel
theorem dX7_takeClause_309 : decode cX7_takeClause 309 = .ok (.goto 4, 3) := by decide +kernel
theorem dX7_takeClause_312 : decode cX7_takeClause 312 = .ok (.iconst 0, 1) := by decide +kernel
theorem dX7_takeClause_313 : decode cX7_takeClause 313 = .ok (.istore_n 3, 1) := by decide +kernel
theorem dX7_takeClause_314 : decode cX7_takeClause 314 = .ok (.iload_n 3, 1) := by decide +kernel
theorem dX7_takeClause_315 : decode cX7_takeClause 315 = .ok (.ifCond .eq 13, 3) := by decide +kernel
theorem dX7_takeClause_318 : decode cX7_takeClause 318 = .ok (.aload_n 0, 1) := by decide +kernel
theorem dX7_takeClause_319 : decode cX7_takeClause 319 = .ok (.iconst 3, 1) := by decide +kernel
theorem dX7_takeClause_320 : decode cX7_takeClause 320 = .ok (.aload_n 0, 1) := by decide +kernel
theorem dX7_takeClause_321 : decode cX7_takeClause 321 = .ok (.getfield 115, 3) := by decide +kernel
theorem dX7_takeClause_324 : decode cX7_takeClause 324 = .ok (.invokevirtual 145, 3) := by decide +kernel
theorem dX7_takeClause_327 : decode cX7_takeClause 327 = .ok (.ireturn, 1) := by decide +kernel
theorem dX7_takeClause_328 : decode cX7_takeClause 328 = .ok (.aload_n 0, 1) := by decide +kernel
theorem dX7_takeClause_329 : decode cX7_takeClause 329 = .ok (.aload_n 0, 1) := by decide +kernel
theorem dX7_takeClause_330 : decode cX7_takeClause 330 = .ok (.getfield 126, 3) := by decide +kernel
theorem dX7_takeClause_333 : decode cX7_takeClause 333 = .ok (.putfield 115, 3) := by decide +kernel
theorem dX7_takeClause_336 : decode cX7_takeClause 336 = .ok (.aload_n 0, 1) := by decide +kernel
theorem dX7_takeClause_337 : decode cX7_takeClause 337 = .ok (.iload_n 2, 1) := by decide +kernel
theorem dX7_takeClause_338 : decode cX7_takeClause 338 = .ok (.invokevirtual 213, 3) := by decide +kernel
theorem dX7_takeClause_341 : decode cX7_takeClause 341 = .ok (.istore 4, 2) := by decide +kernel
theorem dX7_takeClause_343 : decode cX7_takeClause 343 = .ok (.iload 4, 2) := by decide +kernel
theorem dX7_takeClause_345 : decode cX7_takeClause 345 = .ok (.ifCond .ne 22, 3) := by decide +kernel
theorem dX7_takeClause_348 : decode cX7_takeClause 348 = .ok (.aload_n 0, 1) := by decide +kernel
theorem dX7_takeClause_349 : decode cX7_takeClause 349 = .ok (.invokevirtual 118, 3) := by decide +kernel
theorem dX7_takeClause_352 : decode cX7_takeClause 352 = .ok (.bipush 59, 2) := by decide +kernel
theorem dX7_takeClause_354 : decode cX7_takeClause 354 = .ok (.if_icmp .eq 13, 3) := by decide +kernel
theorem dX7_takeClause_357 : decode cX7_takeClause 357 = .ok (.aload_n 0, 1) := by decide +kernel
theorem dX7_takeClause_358 : decode cX7_takeClause 358 = .ok (.iconst 1, 1) := by decide +kernel
theorem dX7_takeClause_359 : decode cX7_takeClause 359 = .ok (.aload_n 0, 1) := by decide +kernel
theorem dX7_takeClause_360 : decode cX7_takeClause 360 = .ok (.getfield 115, 3) := by decide +kernel
theorem dX7_takeClause_363 : decode cX7_takeClause 363 = .ok (.invokevirtual 145, 3) := by decide +kernel
theorem dX7_takeClause_366 : decode cX7_takeClause 366 = .ok (.ireturn, 1) := by decide +kernel
theorem dX7_takeClause_367 : decode cX7_takeClause 367 = .ok (.aload_n 0, 1) := by decide +kernel
theorem dX7_takeClause_368 : decode cX7_takeClause 368 = .ok (.dup, 1) := by decide +kernel
theorem dX7_takeClause_369 : decode cX7_takeClause 369 = .ok (.getfield 115, 3) := by decide +kernel
theorem dX7_takeClause_372 : decode cX7_takeClause 372 = .ok (.iconst 1, 1) := by decide +kernel
theorem dX7_takeClause_373 : decode cX7_takeClause 373 = .ok (.iadd, 1) := by decide +kernel
theorem dX7_takeClause_374 : decode cX7_takeClause 374 = .ok (.putfield 115, 3) := by decide +kernel
theorem dX7_takeClause_377 : decode cX7_takeClause 377 = .ok (.iload 4, 2) := by decide +kernel
theorem dX7_takeClause_379 : decode cX7_takeClause 379 = .ok (.ireturn, 1) := by decide +kernel
theorem dX7_clear_0 : decode cX7_clear 0 = .ok (.aload_n 0, 1) := by decide +kernel
theorem dX7_clear_1 : decode cX7_clear 1 = .ok (.iconst 0, 1) := by decide +kernel
theorem dX7_clear_2 : decode cX7_clear 2 = .ok (.putfield 158, 3) := by decide +kernel
theorem dX7_clear_5 : decode cX7_clear 5 = .ok (.aload_n 0, 1) := by decide +kernel
theorem dX7_clear_6 : decode cX7_clear 6 = .ok (.iconst 0, 1) := by decide +kernel
theorem dX7_clear_7 : decode cX7_clear 7 = .ok (.putfield 161, 3) := by decide +kernel
theorem dX7_clear_10 : decode cX7_clear 10 = .ok (.aload_n 0, 1) := by decide +kernel
theorem dX7_clear_11 : decode cX7_clear 11 = .ok (.iconst 0, 1) := by decide +kernel
theorem dX7_clear_12 : decode cX7_clear 12 = .ok (.putfield 164, 3) := by decide +kernel
theorem dX7_clear_15 : decode cX7_clear 15 = .ok (.aload_n 0, 1) := by decide +kernel
theorem dX7_clear_16 : decode cX7_clear 16 = .ok (.iconst 0, 1) := by decide +kernel
theorem dX7_clear_17 : decode cX7_clear 17 = .ok (.putfield 186, 3) := by decide +kernel
theorem dX7_clear_20 : decode cX7_clear 20 = .ok (.aload_n 0, 1) := by decide +kernel
theorem dX7_clear_21 : decode cX7_clear 21 = .ok (.iconst 0, 1) := by decide +kernel
theorem dX7_clear_22 : decode cX7_clear 22 = .ok (.putfield 193, 3) := by decide +kernel
theorem dX7_clear_25 : decode cX7_clear 25 = .ok (.aload_n 0, 1) := by decide +kernel
theorem dX7_clear_26 : decode cX7_clear 26 = .ok (.iconst 0, 1) := by decide +kernel
theorem dX7_clear_27 : decode cX7_clear 27 = .ok (.putfield 171, 3) := by decide +kernel
theorem dX7_clear_30 : decode cX7_clear 30 = .ok (.aload_n 0, 1) := by decide +kernel
theorem dX7_clear_31 : decode cX7_clear 31 = .ok (.iconst 0, 1) := by decide +kernel
theorem dX7_clear_32 : decode cX7_clear 32 = .ok (.putfield 174, 3) := by decide +kernel
theorem dX7_clear_35 : decode cX7_clear 35 = .ok (.iconst 0, 1) := by decide +kernel
theorem dX7_clear_36 : decode cX7_clear 36 = .ok (.istore_n 1, 1) := by decide +kernel
theorem dX7_clear_37 : decode cX7_clear 37 = .ok (.iload_n 1, 1) := by decide +kernel
theorem dX7_clear_38 : decode cX7_clear 38 = .ok (.bipush 60, 2) := by decide +kernel
theorem dX7_clear_40 : decode cX7_clear 40 = .ok (.if_icmp .ge 23, 3) := by decide +kernel
theorem dX7_clear_43 : decode cX7_clear 43 = .ok (.aload_n 0, 1) := by decide +kernel
theorem dX7_clear_44 : decode cX7_clear 44 = .ok (.getfield 59, 3) := by decide +kernel
theorem dX7_clear_47 : decode cX7_clear 47 = .ok (.iload_n 1, 1) := by decide +kernel
theorem dX7_clear_48 : decode cX7_clear 48 = .ok (.iconst (-1), 1) := by decide +kernel
theorem dX7_clear_49 : decode cX7_clear 49 = .ok (.iastore, 1) := by decide +kernel
theorem dX7_clear_50 : decode cX7_clear 50 = .ok (.aload_n 0, 1) := by decide +kernel
theorem dX7_clear_51 : decode cX7_clear 51 = .ok (.getfield 62, 3) := by decide +kernel
theorem dX7_clear_54 : decode cX7_clear 54 = .ok (.iload_n 1, 1) := by decide +kernel
theorem dX7_clear_55 : decode cX7_clear 55 = .ok (.iconst (-1), 1) := by decide +kernel
theorem dX7_clear_56 : decode cX7_clear 56 = .ok (.iastore, 1) := by decide +kernel
theorem dX7_clear_57 : decode cX7_clear 57 = .ok (.iinc 1 1, 3) := by decide +kernel
theorem dX7_clear_60 : decode cX7_clear 60 = .ok (.goto (-23), 3) := by decide +kernel
theorem dX7_clear_63 : decode cX7_clear 63 = .ok (.return_, 1) := by decide +kernel
set_option maxRecDepth 20000 in
theorem ggX7_lake_X7_clear : GoodIn wsX7_lake wsX7_clear := goodIn_r _ [34, 4, 6, 8, 35, 36, 10, 12, 23, 25, 119, 120, 121, 122, 123, 124, 125, 126, 127, 128, 129, 130, 131, 132, 133, 134, 135, 136, 137, 138, 139, 140, 141, 142, 143, 144, 145, 146, 147, 148, 149, 150, 151, 152, 153, 154, 155, 156, 157, 158, 159, 160, 161, 162, 163, 164, 165, 166] (by decide +kernel) (by decide +kernel)
set_option maxRecDepth 20000 in
theorem gX7_lake_X7_clear : GoodIn wsX7_lake (wsV RX7 217 RX7 yX7_clear wsX7_clear) := goodIn_app (goodIn_of _ (by decide +kernel)) ggX7_lake_X7_clear
set_option maxRecDepth 20000 in
theorem ggX7_lake_X7_here : GoodIn wsX7_lake wsX7_here := goodIn_r _ [40, 2, 3, 41, 119, 120, 121, 122, 123, 124, 125, 126, 127, 128, 129, 130, 131, 132, 133, 134, 135, 136, 137, 138, 139, 140, 141, 142, 143, 144, 145, 146, 147, 148, 149, 150, 151, 152, 153, 154, 155, 156, 157, 158, 159, 160, 161, 162, 163, 164, 165, 166] (by decide +kernel) (by decide +kernel)
set_option maxRecDepth 20000 in
theorem gX7_lake_X7_here : GoodIn wsX7_lake (wsV RX7 118 RX7 yX7_here wsX7_here) := goodIn_app (goodIn_of _ (by decide +kernel)) ggX7_lake_X7_here
set_option maxRecDepth 20000 in
theorem ggX7_lake_X7_takeClause : GoodIn wsX7_lake wsX7_takeClause := goodIn_r _ [45, 46, 4, 2, 8, 35, 36, 10, 12, 47, 48, 49, 50, 33, 51, 3, 41, 52, 53, 54, 55, 56, 57, 37, 38, 39, 40, 58, 59, 60, 61, 62, 63, 64, 65, 66, 67, 68, 69, 70, 1, 71, 72, 73, 74, 23, 25, 75, 76, 77, 78, 79, 80, 6, 81, 82, 83, 84, 85, 86, 87, 88, 89, 90, 17, 19, 21, 91, 92, 93, 94, 95, 96, 97, 98, 99, 100, 101, 102, 27, 103, 104, 105, 106, 14, 119, 120, 121, 122, 123, 124, 125, 126, 127, 128, 129, 130, 131, 132, 133, 134, 135, 136, 137, 138, 139, 140, 141, 142, 143, 144, 145, 146, 147, 148, 149, 150, 151, 152, 153, 154, 155, 156, 157, 158, 159, 160, 161, 162, 163, 164, 165, 166] (by decide +kernel) (by decide +kernel)
set_option maxRecDepth 20000 in
theorem gX7_lake_X7_takeClause : GoodIn wsX7_lake (wsV RX7 220 RX7 yX7_takeClause wsX7_takeClause) := goodIn_app (goodIn_of _ (by decide +kernel)) ggX7_lake_X7_takeClause
set_option maxRecDepth 20000 in
theorem ggX7_lake_X7_begin : GoodIn wsX7_lake wsX7_begin := goodIn_r _ [110, 111, 112, 20, 113, 114, 22, 119, 120, 121, 122, 123, 124, 125, 126, 127, 128, 129, 130, 131, 132, 133, 134, 135, 136, 137, 138, 139, 140, 141, 142, 143, 144, 145, 146, 147, 148, 149, 150, 151, 152, 153, 154, 155, 156, 157, 158, 159, 160, 161, 162, 163, 164, 165, 166] (by decide +kernel) (by decide +kernel)
set_option maxRecDepth 20000 in
theorem gX7_lake_X7_begin : GoodIn wsX7_lake (wsV RX7 229 RX7 yX7_begin wsX7_begin) := goodIn_app (goodIn_of _ (by decide +kernel)) ggX7_lake_X7_begin
set_option maxRecDepth 20000 in
theorem ggX7_lake_X7_cells : GoodIn wsX7_lake wsX7_cells := goodIn_r _ [118, 5, 7, 119, 120, 121, 122, 123, 124, 125, 126, 127, 128, 129, 130, 131, 132, 133, 134, 135, 136, 137, 138, 139, 140, 141, 142, 143, 144, 145, 146, 147, 148, 149, 150, 151, 152, 153, 154, 155, 156, 157, 158, 159, 160, 161, 162, 163, 164, 165, 166] (by decide +kernel) (by decide +kernel)
set_option maxRecDepth 20000 in
theorem gX7_lake_X7_cells : GoodIn wsX7_lake (wsV RX7 232 RX7 yX7_cells wsX7_cells) := goodIn_app (goodIn_of _ (by decide +kernel)) ggX7_lake_X7_cells
theorem dX7_lake_0 : decode cX7_lake 0 = .ok (.aload_n 0, 1) := by decide +kernel
theorem dX7_lake_1 : decode cX7_lake 1 = .ok (.iconst (-1), 1) := by decide +kernel
theorem dX7_lake_2 : decode cX7_lake 2 = .ok (.putfield 47, 3) := by decide +kernel
theorem dX7_lake_5 : decode cX7_lake 5 = .ok (.aload_n 0, 1) := by decide +kernel
theorem dX7_lake_6 : decode cX7_lake 6 = .ok (.iconst 0, 1) := by decide +kernel
theorem dX7_lake_7 : decode cX7_lake 7 = .ok (.putfield 115, 3) := by decide +kernel
theorem dX7_lake_10 : decode cX7_lake 10 = .ok (.aload_n 0, 1) := by decide +kernel
theorem dX7_lake_11 : decode cX7_lake 11 = .ok (.invokevirtual 217, 3) := by decide +kernel
theorem dX7_lake_14 : decode cX7_lake 14 = .ok (.iconst 0, 1) := by decide +kernel
theorem dX7_lake_15 : decode cX7_lake 15 = .ok (.istore_n 1, 1) := by decide +kernel
theorem dX7_lake_16 : decode cX7_lake 16 = .ok (.iload_n 1, 1) := by decide +kernel
theorem dX7_lake_17 : decode cX7_lake 17 = .ok (.ifCond .ne 18, 3) := by decide +kernel
theorem dX7_lake_20 : decode cX7_lake 20 = .ok (.aload_n 0, 1) := by decide +kernel
theorem dX7_lake_21 : decode cX7_lake 21 = .ok (.invokevirtual 118, 3) := by decide +kernel
theorem dX7_lake_24 : decode cX7_lake 24 = .ok (.ifCond .lt 11, 3) := by decide +kernel
theorem dX7_lake_27 : decode cX7_lake 27 = .ok (.aload_n 0, 1) := by decide +kernel
theorem dX7_lake_28 : decode cX7_lake 28 = .ok (.invokevirtual 220, 3) := by decide +kernel
theorem dX7_lake_31 : decode cX7_lake 31 = .ok (.istore_n 1, 1) := by decide +kernel
theorem dX7_lake_32 : decode cX7_lake 32 = .ok (.goto (-16), 3) := by decide +kernel
theorem dX7_lake_35 : decode cX7_lake 35 = .ok (.aload_n 0, 1) := by decide +kernel
theorem dX7_lake_36 : decode cX7_lake 36 = .ok (.iconst 0, 1) := by decide +kernel
theorem dX7_lake_37 : decode cX7_lake 37 = .ok (.putfield 109, 3) := by decide +kernel
theorem dX7_lake_40 : decode cX7_lake 40 = .ok (.iload_n 1, 1) := by decide +kernel
theorem dX7_lake_41 : decode cX7_lake 41 = .ok (.ifCond .le 8, 3) := by decide +kernel
theorem dX7_lake_44 : decode cX7_lake 44 = .ok (.bipush (-10), 2) := by decide +kernel
theorem dX7_lake_46 : decode cX7_lake 46 = .ok (.iload_n 1, 1) := by decide +kernel
theorem dX7_lake_47 : decode cX7_lake 47 = .ok (.isub, 1) := by decide +kernel
theorem dX7_lake_48 : decode cX7_lake 48 = .ok (.ireturn, 1) := by decide +kernel
theorem dX7_lake_49 : decode cX7_lake 49 = .ok (.aload_n 0, 1) := by decide +kernel
theorem dX7_lake_50 : decode cX7_lake 50 = .ok (.aload_n 0, 1) := by decide +kernel
theorem dX7_lake_51 : decode cX7_lake 51 = .ok (.getfield 158, 3) := by decide +kernel
theorem dX7_lake_54 : decode cX7_lake 54 = .ok (.putfield 90, 3) := by decide +kernel
theorem dX7_lake_57 : decode cX7_lake 57 = .ok (.aload_n 0, 1) := by decide +kernel
theorem dX7_lake_58 : decode cX7_lake 58 = .ok (.aload_n 0, 1) := by decide +kernel
theorem dX7_lake_59 : decode cX7_lake 59 = .ok (.getfield 161, 3) := by decide +kernel
theorem dX7_lake_62 : decode cX7_lake 62 = .ok (.putfield 97, 3) := by decide +kernel
theorem dX7_lake_65 : decode cX7_lake 65 = .ok (.aload_n 0, 1) := by decide +kernel
theorem dX7_lake_66 : decode cX7_lake 66 = .ok (.aload_n 0, 1) := by decide +kernel
theorem dX7_lake_67 : decode cX7_lake 67 = .ok (.getfield 164, 3) := by decide +kernel
theorem dX7_lake_70 : decode cX7_lake 70 = .ok (.putfield 100, 3) := by decide +kernel
theorem dX7_lake_73 : decode cX7_lake 73 = .ok (.aload_n 0, 1) := by decide +kernel
theorem dX7_lake_74 : decode cX7_lake 74 = .ok (.aload_n 0, 1) := by decide +kernel
theorem dX7_lake_75 : decode cX7_lake 75 = .ok (.getfield 171, 3) := by decide +kernel
theorem dX7_lake_78 : decode cX7_lake 78 = .ok (.putfield 223, 3) := by decide +kernel
theorem dX7_lake_81 : decode cX7_lake 81 = .ok (.aload_n 0, 1) := by decide +kernel
theorem dX7_lake_82 : decode cX7_lake 82 = .ok (.aload_n 0, 1) := by decide +kernel
theorem dX7_lake_83 : decode cX7_lake 83 = .ok (.getfield 174, 3) := by decide +kernel
theorem dX7_lake_86 : decode cX7_lake 86 = .ok (.ifCond .le 10, 3) := by decide +kernel
theorem dX7_lake_89 : decode cX7_lake 89 = .ok (.aload_n 0, 1) := by decide +kernel
theorem dX7_lake_90 : decode cX7_lake 90 = .ok (.getfield 174, 3) := by decide +kernel
theorem dX7_lake_93 : decode cX7_lake 93 = .ok (.goto 4, 3) := by decide +kernel
theorem dX7_lake_96 : decode cX7_lake 96 = .ok (.iconst 3, 1) := by decide +kernel
theorem dX7_lake_97 : decode cX7_lake 97 = .ok (.putfield 28, 3) := by decide +kernel
theorem dX7_lake_100 : decode cX7_lake 100 = .ok (.aload_n 0, 1) := by decide +kernel
theorem dX7_lake_101 : decode cX7_lake 101 = .ok (.aload_n 0, 1) := by decide +kernel
theorem dX7_lake_102 : decode cX7_lake 102 = .ok (.getfield 174, 3) := by decide +kernel
theorem dX7_lake_105 : decode cX7_lake 105 = .ok (.ifCond .le 10, 3) := by decide +kernel
theorem dX7_lake_108 : decode cX7_lake 108 = .ok (.aload_n 0, 1) := by decide +kernel
theorem dX7_lake_109 : decode cX7_lake 109 = .ok (.getfield 177, 3) := by decide +kernel
theorem dX7_lake_112 : decode cX7_lake 112 = .ok (.goto 5, 3) := by decide +kernel
theorem dX7_lake_115 : decode cX7_lake 115 = .ok (.bipush 100, 2) := by decide +kernel
theorem dX7_lake_117 : decode cX7_lake 117 = .ok (.putfield 32, 3) := by decide +kernel
theorem dX7_lake_120 : decode cX7_lake 120 = .ok (.iconst 0, 1) := by decide +kernel
theorem dX7_lake_121 : decode cX7_lake 121 = .ok (.istore_n 2, 1) := by decide +kernel
theorem dX7_lake_122 : decode cX7_lake 122 = .ok (.iload_n 2, 1) := by decide +kernel
theorem dX7_lake_123 : decode cX7_lake 123 = .ok (.bipush 6, 2) := by decide +kernel
theorem dX7_lake_125 : decode cX7_lake 125 = .ok (.if_icmp .ge 45, 3) := by decide +kernel
theorem dX7_lake_128 : decode cX7_lake 128 = .ok (.aload_n 0, 1) := by decide +kernel
theorem dX7_lake_129 : decode cX7_lake 129 = .ok (.getfield 7, 3) := by decide +kernel
theorem dX7_lake_132 : decode cX7_lake 132 = .ok (.iload_n 2, 1) := by decide +kernel
theorem dX7_lake_133 : decode cX7_lake 133 = .ok (.aload_n 0, 1) := by decide +kernel
theorem dX7_lake_134 : decode cX7_lake 134 = .ok (.getfield 50, 3) := by decide +kernel
theorem dX7_lake_137 : decode cX7_lake 137 = .ok (.iload_n 2, 1) := by decide +kernel
theorem dX7_lake_138 : decode cX7_lake 138 = .ok (.iaload, 1) := by decide +kernel
theorem dX7_lake_139 : decode cX7_lake 139 = .ok (.iastore, 1) := by decide +kernel
theorem dX7_lake_140 : decode cX7_lake 140 = .ok (.aload_n 0, 1) := by decide +kernel
theorem dX7_lake_141 : decode cX7_lake 141 = .ok (.getfield 13, 3) := by decide +kernel
theorem dX7_lake_144 : decode cX7_lake 144 = .ok (.iload_n 2, 1) := by decide +kernel
theorem dX7_lake_145 : decode cX7_lake 145 = .ok (.aload_n 0, 1) := by decide +kernel
theorem dX7_lake_146 : decode cX7_lake 146 = .ok (.getfield 53, 3) := by decide +kernel
theorem dX7_lake_149 : decode cX7_lake 149 = .ok (.iload_n 2, 1) := by decide +kernel
theorem dX7_lake_150 : decode cX7_lake 150 = .ok (.iaload, 1) := by decide +kernel
theorem dX7_lake_151 : decode cX7_lake 151 = .ok (.iastore, 1) := by decide +kernel
theorem dX7_lake_152 : decode cX7_lake 152 = .ok (.aload_n 0, 1) := by decide +kernel
theorem dX7_lake_153 : decode cX7_lake 153 = .ok (.getfield 16, 3) := by decide +kernel
theorem dX7_lake_156 : decode cX7_lake 156 = .ok (.iload_n 2, 1) := by decide +kernel
theorem dX7_lake_157 : decode cX7_lake 157 = .ok (.aload_n 0, 1) := by decide +kernel
theorem dX7_lake_158 : decode cX7_lake 158 = .ok (.getfield 56, 3) := by decide +kernel
theorem dX7_lake_161 : decode cX7_lake 161 = .ok (.iload_n 2, 1) := by decide +kernel
theorem dX7_lake_162 : decode cX7_lake 162 = .ok (.iaload, 1) := by decide +kernel
theorem dX7_lake_163 : decode cX7_lake 163 = .ok (.iastore, 1) := by decide +kernel
theorem dX7_lake_164 : decode cX7_lake 164 = .ok (.iinc 2 1, 3) := by decide +kernel
theorem dX7_lake_167 : decode cX7_lake 167 = .ok (.goto (-45), 3) := by decide +kernel
theorem dX7_lake_170 : decode cX7_lake 170 = .ok (.iconst 0, 1) := by decide +kernel
theorem dX7_lake_171 : decode cX7_lake 171 = .ok (.istore_n 2, 1) := by decide +kernel
theorem dX7_lake_172 : decode cX7_lake 172 = .ok (.iload_n 2, 1) := by decide +kernel
theorem dX7_lake_173 : decode cX7_lake 173 = .ok (.bipush 60, 2) := by decide +kernel
theorem dX7_lake_175 : decode cX7_lake 175 = .ok (.if_icmp .ge 59, 3) := by decide +kernel
theorem dX7_lake_178 : decode cX7_lake 178 = .ok (.aload_n 0, 1) := by decide +kernel
theorem dX7_lake_179 : decode cX7_lake 179 = .ok (.getfield 19, 3) := by decide +kernel
theorem dX7_lake_182 : decode cX7_lake 182 = .ok (.iload_n 2, 1) := by decide +kernel
theorem dX7_lake_183 : decode cX7_lake 183 = .ok (.aload_n 0, 1) := by decide +kernel
theorem dX7_lake_184 : decode cX7_lake 184 = .ok (.getfield 59, 3) := by decide +kernel
theorem dX7_lake_187 : decode cX7_lake 187 = .ok (.iload_n 2, 1) := by decide +kernel
theorem dX7_lake_188 : decode cX7_lake 188 = .ok (.iaload, 1) := by decide +kernel
theorem dX7_lake_189 : decode cX7_lake 189 = .ok (.ifCond .ge 7, 3) := by decide +kernel
theorem dX7_lake_192 : decode cX7_lake 192 = .ok (.iconst 0, 1) := by decide +kernel
theorem dX7_lake_193 : decode cX7_lake 193 = .ok (.goto 9, 3) := by decide +kernel
theorem dX7_lake_196 : decode cX7_lake 196 = .ok (.aload_n 0, 1) := by decide +kernel
theorem dX7_lake_197 : decode cX7_lake 197 = .ok (.getfield 59, 3) := by decide +kernel
theorem dX7_lake_200 : decode cX7_lake 200 = .ok (.iload_n 2, 1) := by decide +kernel
theorem dX7_lake_201 : decode cX7_lake 201 = .ok (.iaload, 1) := by decide +kernel
theorem dX7_lake_202 : decode cX7_lake 202 = .ok (.iastore, 1) := by decide +kernel
theorem dX7_lake_203 : decode cX7_lake 203 = .ok (.aload_n 0, 1) := by decide +kernel
theorem dX7_lake_204 : decode cX7_lake 204 = .ok (.getfield 22, 3) := by decide +kernel
theorem dX7_lake_207 : decode cX7_lake 207 = .ok (.iload_n 2, 1) := by decide +kernel
theorem dX7_lake_208 : decode cX7_lake 208 = .ok (.aload_n 0, 1) := by decide +kernel
theorem dX7_lake_209 : decode cX7_lake 209 = .ok (.getfield 62, 3) := by decide +kernel
theorem dX7_lake_212 : decode cX7_lake 212 = .ok (.iload_n 2, 1) := by decide +kernel
theorem dX7_lake_213 : decode cX7_lake 213 = .ok (.iaload, 1) := by decide +kernel
theorem dX7_lake_214 : decode cX7_lake 214 = .ok (.ifCond .ge 7, 3) := by decide +kernel
theorem dX7_lake_217 : decode cX7_lake 217 = .ok (.iconst 1, 1) := by decide +kernel
theorem dX7_lake_218 : decode cX7_lake 218 = .ok (.goto 9, 3) := by decide +kernel
theorem dX7_lake_221 : decode cX7_lake 221 = .ok (.aload_n 0, 1) := by decide +kernel
theorem dX7_lake_222 : decode cX7_lake 222 = .ok (.getfield 62, 3) := by decide +kernel
theorem dX7_lake_225 : decode cX7_lake 225 = .ok (.iload_n 2, 1) := by decide +kernel
theorem dX7_lake_226 : decode cX7_lake 226 = .ok (.iaload, 1) := by decide +kernel
theorem dX7_lake_227 : decode cX7_lake 227 = .ok (.iastore, 1) := by decide +kernel
theorem dX7_lake_228 : decode cX7_lake 228 = .ok (.iinc 2 1, 3) := by decide +kernel
theorem dX7_lake_231 : decode cX7_lake 231 = .ok (.goto (-59), 3) := by decide +kernel
theorem dX7_lake_234 : decode cX7_lake 234 = .ok (.iconst 0, 1) := by decide +kernel
theorem dX7_lake_235 : decode cX7_lake 235 = .ok (.istore_n 2, 1) := by decide +kernel
theorem dX7_lake_236 : decode cX7_lake 236 = .ok (.iload_n 2, 1) := by decide +kernel
theorem dX7_lake_237 : decode cX7_lake 237 = .ok (.bipush 30, 2) := by decide +kernel
theorem dX7_lake_239 : decode cX7_lake 239 = .ok (.if_icmp .ge 21, 3) := by decide +kernel
theorem dX7_lake_242 : decode cX7_lake 242 = .ok (.aload_n 0, 1) := by decide +kernel
theorem dX7_lake_243 : decode cX7_lake 243 = .ok (.getfield 25, 3) := by decide +kernel
theorem dX7_lake_246 : decode cX7_lake 246 = .ok (.iload_n 2, 1) := by decide +kernel
theorem dX7_lake_247 : decode cX7_lake 247 = .ok (.aload_n 0, 1) := by decide +kernel
theorem dX7_lake_248 : decode cX7_lake 248 = .ok (.getfield 65, 3) := by decide +kernel
theorem dX7_lake_251 : decode cX7_lake 251 = .ok (.iload_n 2, 1) := by decide +kernel
theorem dX7_lake_252 : decode cX7_lake 252 = .ok (.iaload, 1) := by decide +kernel
theorem dX7_lake_253 : decode cX7_lake 253 = .ok (.iastore, 1) := by decide +kernel
theorem dX7_lake_254 : decode cX7_lake 254 = .ok (.iinc 2 1, 3) := by decide +kernel
theorem dX7_lake_257 : decode cX7_lake 257 = .ok (.goto (-21), 3) := by decide +kernel
theorem dX7_lake_260 : decode cX7_lake 260 = .ok (.aload_n 0, 1) := by decide +kernel
theorem dX7_lake_261 : decode cX7_lake 261 = .ok (.iconst 0, 1) := by decide +kernel
theorem dX7_lake_262 : decode cX7_lake 262 = .ok (.putfield 226, 3) := by decide +kernel
theorem dX7_lake_265 : decode cX7_lake 265 = .ok (.aload_n 0, 1) := by decide +kernel
theorem dX7_lake_266 : decode cX7_lake 266 = .ok (.getfield 86, 3) := by decide +kernel
theorem dX7_lake_269 : decode cX7_lake 269 = .ok (.iconst 0, 1) := by decide +kernel
theorem dX7_lake_270 : decode cX7_lake 270 = .ok (.iconst 0, 1) := by decide +kernel
theorem dX7_lake_271 : decode cX7_lake 271 = .ok (.bastore, 1) := by decide +kernel
theorem dX7_lake_272 : decode cX7_lake 272 = .ok (.aload_n 0, 1) := by decide +kernel
theorem dX7_lake_273 : decode cX7_lake 273 = .ok (.getfield 86, 3) := by decide +kernel
theorem dX7_lake_276 : decode cX7_lake 276 = .ok (.iconst 1, 1) := by decide +kernel
theorem dX7_lake_277 : decode cX7_lake 277 = .ok (.iconst 0, 1) := by decide +kernel
theorem dX7_lake_278 : decode cX7_lake 278 = .ok (.bastore, 1) := by decide +kernel
theorem dX7_lake_279 : decode cX7_lake 279 = .ok (.aload_n 0, 1) := by decide +kernel
theorem dX7_lake_280 : decode cX7_lake 280 = .ok (.invokevirtual 229, 3) := by decide +kernel
theorem dX7_lake_283 : decode cX7_lake 283 = .ok (.istore_n 2, 1) := by decide +kernel
theorem dX7_lake_284 : decode cX7_lake 284 = .ok (.aload_n 0, 1) := by decide +kernel
theorem dX7_lake_285 : decode cX7_lake 285 = .ok (.invokevirtual 232, 3) := by decide +kernel
theorem dX7_lake_288 : decode cX7_lake 288 = .ok (.ireturn, 1) := by decide +kernel
theorem dX7_fault_0 : decode cX7_fault 0 = .ok (.aload_n 0, 1) := by decide +kernel
theorem dX7_fault_1 : decode cX7_fault 1 = .ok (.getfield 47, 3) := by decide +kernel
theorem dX7_fault_4 : decode cX7_fault 4 = .ok (.ireturn, 1) := by decide +kernel
set_option maxRecDepth 20000 in
theorem ggX7_farNow_X7_in : GoodIn wsX7_farNow wsX7_in := goodIn_r _ [7] (by decide +kernel) (by decide +kernel)
set_option maxRecDepth 20000 in
theorem gX7_farNow_X7_in : GoodIn wsX7_farNow (va_wsS RX7 93 yX7_in wsX7_in) := goodIn_app (goodIn_of _ (by decide +kernel)) ggX7_farNow_X7_in
theorem dX7_farNow_0 : decode cX7_farNow 0 = .ok (.iconst (-1), 1) := by decide +kernel
theorem dX7_farNow_1 : decode cX7_farNow 1 = .ok (.istore_n 1, 1) := by decide +kernel
theorem dX7_farNow_2 : decode cX7_farNow 2 = .ok (.iconst 0, 1) := by decide +kernel
theorem dX7_farNow_3 : decode cX7_farNow 3 = .ok (.istore_n 2, 1) := by decide +kernel
theorem dX7_farNow_4 : decode cX7_farNow 4 = .ok (.iload_n 2, 1) := by decide +kernel
theorem dX7_farNow_5 : decode cX7_farNow 5 = .ok (.aload_n 0, 1) := by decide +kernel
theorem dX7_farNow_6 : decode cX7_farNow 6 = .ok (.getfield 223, 3) := by decide +kernel
theorem dX7_farNow_9 : decode cX7_farNow 9 = .ok (.if_icmp .ge 75, 3) := by decide +kernel
theorem dX7_farNow_12 : decode cX7_farNow 12 = .ok (.aload_n 0, 1) := by decide +kernel
theorem dX7_farNow_13 : decode cX7_farNow 13 = .ok (.getfield 103, 3) := by decide +kernel
theorem dX7_farNow_16 : decode cX7_farNow 16 = .ok (.i2l, 1) := by decide +kernel
theorem dX7_farNow_17 : decode cX7_farNow 17 = .ok (.aload_n 0, 1) := by decide +kernel
theorem dX7_farNow_18 : decode cX7_farNow 18 = .ok (.getfield 25, 3) := by decide +kernel
theorem dX7_farNow_21 : decode cX7_farNow 21 = .ok (.iconst 3, 1) := by decide +kernel
theorem dX7_farNow_22 : decode cX7_farNow 22 = .ok (.iload_n 2, 1) := by decide +kernel
theorem dX7_farNow_23 : decode cX7_farNow 23 = .ok (.imul, 1) := by decide +kernel
theorem dX7_farNow_24 : decode cX7_farNow 24 = .ok (.iaload, 1) := by decide +kernel
theorem dX7_farNow_25 : decode cX7_farNow 25 = .ok (.i2l, 1) := by decide +kernel
theorem dX7_farNow_26 : decode cX7_farNow 26 = .ok (.aload_n 0, 1) := by decide +kernel
theorem dX7_farNow_27 : decode cX7_farNow 27 = .ok (.getfield 25, 3) := by decide +kernel
theorem dX7_farNow_30 : decode cX7_farNow 30 = .ok (.iconst 3, 1) := by decide +kernel
theorem dX7_farNow_31 : decode cX7_farNow 31 = .ok (.iload_n 2, 1) := by decide +kernel
theorem dX7_farNow_32 : decode cX7_farNow 32 = .ok (.imul, 1) := by decide +kernel
theorem dX7_farNow_33 : decode cX7_farNow 33 = .ok (.iconst 1, 1) := by decide +kernel
theorem dX7_farNow_34 : decode cX7_farNow 34 = .ok (.iadd, 1) := by decide +kernel
theorem dX7_farNow_35 : decode cX7_farNow 35 = .ok (.iaload, 1) := by decide +kernel
theorem dX7_farNow_36 : decode cX7_farNow 36 = .ok (.i2l, 1) := by decide +kernel
theorem dX7_farNow_37 : decode cX7_farNow 37 = .ok (.invokestatic 93, 3) := by decide +kernel
theorem dX7_farNow_40 : decode cX7_farNow 40 = .ok (.istore_n 3, 1) := by decide +kernel
theorem dX7_farNow_41 : decode cX7_farNow 41 = .ok (.iload_n 3, 1) := by decide +kernel
theorem dX7_farNow_42 : decode cX7_farNow 42 = .ok (.ifCond .eq 34, 3) := by decide +kernel
theorem dX7_farNow_45 : decode cX7_farNow 45 = .ok (.iload_n 1, 1) := by decide +kernel
theorem dX7_farNow_46 : decode cX7_farNow 46 = .ok (.ifCond .lt 17, 3) := by decide +kernel
theorem dX7_farNow_49 : decode cX7_farNow 49 = .ok (.aload_n 0, 1) := by decide +kernel
theorem dX7_farNow_50 : decode cX7_farNow 50 = .ok (.getfield 25, 3) := by decide +kernel
theorem dX7_farNow_53 : decode cX7_farNow 53 = .ok (.iconst 3, 1) := by decide +kernel
theorem dX7_farNow_54 : decode cX7_farNow 54 = .ok (.iload_n 2, 1) := by decide +kernel
theorem dX7_farNow_55 : decode cX7_farNow 55 = .ok (.imul, 1) := by decide +kernel
theorem dX7_farNow_56 : decode cX7_farNow 56 = .ok (.iconst 2, 1) := by decide +kernel
theorem dX7_farNow_57 : decode cX7_farNow 57 = .ok (.iadd, 1) := by decide +kernel
theorem dX7_farNow_58 : decode cX7_farNow 58 = .ok (.iaload, 1) := by decide +kernel
theorem dX7_farNow_59 : decode cX7_farNow 59 = .ok (.iload_n 1, 1) := by decide +kernel
theorem dX7_farNow_60 : decode cX7_farNow 60 = .ok (.if_icmp .ge 16, 3) := by decide +kernel
theorem dX7_farNow_63 : decode cX7_farNow 63 = .ok (.aload_n 0, 1) := by decide +kernel
theorem dX7_farNow_64 : decode cX7_farNow 64 = .ok (.getfield 25, 3) := by decide +kernel
theorem dX7_farNow_67 : decode cX7_farNow 67 = .ok (.iconst 3, 1) := by decide +kernel
theorem dX7_farNow_68 : decode cX7_farNow 68 = .ok (.iload_n 2, 1) := by decide +kernel
theorem dX7_farNow_69 : decode cX7_farNow 69 = .ok (.imul, 1) := by decide +kernel
theorem dX7_farNow_70 : decode cX7_farNow 70 = .ok (.iconst 2, 1) := by decide +kernel
theorem dX7_farNow_71 : decode cX7_farNow 71 = .ok (.iadd, 1) := by decide +kernel
theorem dX7_farNow_72 : decode cX7_farNow 72 = .ok (.iaload, 1) := by decide +kernel
theorem dX7_farNow_73 : decode cX7_farNow 73 = .ok (.goto 4, 3) := by decide +kernel
theorem dX7_farNow_76 : decode cX7_farNow 76 = .ok (.iload_n 1, 1) := by decide +kernel
theorem dX7_farNow_77 : decode cX7_farNow 77 = .ok (.istore_n 1, 1) := by decide +kernel
theorem dX7_farNow_78 : decode cX7_farNow 78 = .ok (.iinc 2 1, 3) := by decide +kernel
theorem dX7_farNow_81 : decode cX7_farNow 81 = .ok (.goto (-77), 3) := by decide +kernel
theorem dX7_farNow_84 : decode cX7_farNow 84 = .ok (.iload_n 1, 1) := by decide +kernel
theorem dX7_farNow_85 : decode cX7_farNow 85 = .ok (.ireturn, 1) := by decide +kernel
set_option maxRecDepth 20000 in
theorem ggX7_told_X7_farNow : GoodIn wsX7_told wsX7_farNow := goodIn_r _ [15, 16, 6, 17, 18, 19, 14, 20, 56, 57, 58, 59, 60, 61, 62, 63, 64, 65, 66, 67, 68, 69, 70, 71, 72, 73, 74, 75, 76, 77, 78, 79, 80, 81, 82, 83, 84, 85, 86, 87, 88, 89, 90, 91, 92, 93, 94, 95, 96, 97, 98, 99, 100, 101, 102, 103] (by decide +kernel) (by decide +kernel)
set_option maxRecDepth 20000 in
theorem gX7_told_X7_farNow : GoodIn wsX7_told (wsV RX7 238 RX7 yX7_farNow wsX7_farNow) := goodIn_app (goodIn_of _ (by decide +kernel)) ggX7_told_X7_farNow
set_option maxRecDepth 20000 in
theorem ggX7_told_X7_countFree : GoodIn wsX7_told wsX7_countFree := goodIn_r _ [24, 1, 25, 26, 27, 14, 28, 2, 29, 30, 31, 32, 3, 11, 12, 13, 15, 16, 6, 17, 18, 19, 20, 33, 34, 35, 36, 37, 38, 39, 40, 41, 42, 43, 44, 45, 46, 47, 48, 49, 50, 8, 51, 52, 53, 54, 55, 56, 57, 58, 59, 60, 61, 62, 63, 64, 65, 66, 67, 68, 69, 70, 71, 72, 73, 74, 75, 76, 77, 78, 79, 80, 81, 82, 83, 84, 85, 86, 87, 88, 89, 90, 91, 92, 93, 94, 95, 96, 97, 98, 99, 100, 101, 102, 103] (by decide +kernel) (by decide +kernel)
set_option maxRecDepth 20000 in
theorem gX7_told_X7_countFree : GoodIn wsX7_told (wsV RX7 241 RX7 yX7_countFree wsX7_countFree) := goodIn_app (goodIn_of _ (by decide +kernel)) ggX7_told_X7_countFree
theorem dX7_told_0 : decode cX7_told 0 = .ok (.iload_n 1, 1) := by decide +kernel
theorem dX7_told_1 : decode cX7_told 1 = .ok (.tableswitch 114 0 10 #[59, 64, 69, 74, 79, 84, 89, 94, 99, 104, 109], 59) := by decide +kernel
theorem dX7_told_60 : decode cX7_told 60 = .ok (.aload_n 0, 1) := by decide +kernel
theorem dX7_told_61 : decode cX7_told 61 = .ok (.getfield 90, 3) := by decide +kernel
theorem dX7_told_64 : decode cX7_told 64 = .ok (.ireturn, 1) := by decide +kernel
theorem dX7_told_65 : decode cX7_told 65 = .ok (.aload_n 0, 1) := by decide +kernel
theorem dX7_told_66 : decode cX7_told 66 = .ok (.getfield 97, 3) := by decide +kernel
theorem dX7_told_69 : decode cX7_told 69 = .ok (.ireturn, 1) := by decide +kernel
theorem dX7_told_70 : decode cX7_told 70 = .ok (.aload_n 0, 1) := by decide +kernel
theorem dX7_told_71 : decode cX7_told 71 = .ok (.getfield 100, 3) := by decide +kernel
theorem dX7_told_74 : decode cX7_told 74 = .ok (.ireturn, 1) := by decide +kernel
theorem dX7_told_75 : decode cX7_told 75 = .ok (.aload_n 0, 1) := by decide +kernel
theorem dX7_told_76 : decode cX7_told 76 = .ok (.getfield 109, 3) := by decide +kernel
theorem dX7_told_79 : decode cX7_told 79 = .ok (.ireturn, 1) := by decide +kernel
theorem dX7_told_80 : decode cX7_told 80 = .ok (.aload_n 0, 1) := by decide +kernel
theorem dX7_told_81 : decode cX7_told 81 = .ok (.getfield 235, 3) := by decide +kernel
theorem dX7_told_84 : decode cX7_told 84 = .ok (.ireturn, 1) := by decide +kernel
theorem dX7_told_85 : decode cX7_told 85 = .ok (.aload_n 0, 1) := by decide +kernel
theorem dX7_told_86 : decode cX7_told 86 = .ok (.getfield 103, 3) := by decide +kernel
theorem dX7_told_89 : decode cX7_told 89 = .ok (.ireturn, 1) := by decide +kernel
theorem dX7_told_90 : decode cX7_told 90 = .ok (.aload_n 0, 1) := by decide +kernel
theorem dX7_told_91 : decode cX7_told 91 = .ok (.invokevirtual 238, 3) := by decide +kernel
theorem dX7_told_94 : decode cX7_told 94 = .ok (.ireturn, 1) := by decide +kernel
theorem dX7_told_95 : decode cX7_told 95 = .ok (.aload_n 0, 1) := by decide +kernel
theorem dX7_told_96 : decode cX7_told 96 = .ok (.getfield 226, 3) := by decide +kernel
theorem dX7_told_99 : decode cX7_told 99 = .ok (.ireturn, 1) := by decide +kernel
theorem dX7_told_100 : decode cX7_told 100 = .ok (.aload_n 0, 1) := by decide +kernel
theorem dX7_told_101 : decode cX7_told 101 = .ok (.getfield 28, 3) := by decide +kernel
theorem dX7_told_104 : decode cX7_told 104 = .ok (.ireturn, 1) := by decide +kernel
theorem dX7_told_105 : decode cX7_told 105 = .ok (.aload_n 0, 1) := by decide +kernel
theorem dX7_told_106 : decode cX7_told 106 = .ok (.getfield 32, 3) := by decide +kernel
theorem dX7_told_109 : decode cX7_told 109 = .ok (.ireturn, 1) := by decide +kernel
theorem dX7_told_110 : decode cX7_told 110 = .ok (.aload_n 0, 1) := by decide +kernel
theorem dX7_told_111 : decode cX7_told 111 = .ok (.invokevirtual 241, 3) := by decide +kernel
theorem dX7_told_114 : decode cX7_told 114 = .ok (.ireturn, 1) := by decide +kernel
theorem dX7_told_115 : decode cX7_told 115 = .ok (.ldc 108, 2) := by decide +kernel
theorem dX7_told_117 : decode cX7_told 117 = .ok (.ireturn, 1) := by decide +kernel
theorem dX7_eyeOf_0 : decode cX7_eyeOf 0 = .ok (.aload_n 0, 1) := by decide +kernel
theorem dX7_eyeOf_1 : decode cX7_eyeOf 1 = .ok (.getfield 13, 3) := by decide +kernel
theorem dX7_eyeOf_4 : decode cX7_eyeOf 4 = .ok (.iload_n 1, 1) := by decide +kernel
theorem dX7_eyeOf_5 : decode cX7_eyeOf 5 = .ok (.iaload, 1) := by decide +kernel
theorem dX7_eyeOf_6 : decode cX7_eyeOf 6 = .ok (.aload_n 0, 1) := by decide +kernel
theorem dX7_eyeOf_7 : decode cX7_eyeOf 7 = .ok (.getfield 35, 3) := by decide +kernel
theorem dX7_eyeOf_10 : decode cX7_eyeOf 10 = .ok (.iload_n 1, 1) := by decide +kernel
theorem dX7_eyeOf_11 : decode cX7_eyeOf 11 = .ok (.iaload, 1) := by decide +kernel
theorem dX7_eyeOf_12 : decode cX7_eyeOf 12 = .ok (.aload_n 0, 1) := by decide +kernel
theorem dX7_eyeOf_13 : decode cX7_eyeOf 13 = .ok (.getfield 28, 3) := by decide +kernel
theorem dX7_eyeOf_16 : decode cX7_eyeOf 16 = .ok (.imul, 1) := by decide +kernel
theorem dX7_eyeOf_17 : decode cX7_eyeOf 17 = .ok (.iadd, 1) := by decide +kernel
theorem dX7_eyeOf_18 : decode cX7_eyeOf 18 = .ok (.iconst 1, 1) := by decide +kernel
theorem dX7_eyeOf_19 : decode cX7_eyeOf 19 = .ok (.iadd, 1) := by decide +kernel
theorem dX7_eyeOf_20 : decode cX7_eyeOf 20 = .ok (.ireturn, 1) := by decide +kernel
theorem dX7_blockerOf_0 : decode cX7_blockerOf 0 = .ok (.aload_n 0, 1) := by decide +kernel
theorem dX7_blockerOf_1 : decode cX7_blockerOf 1 = .ok (.getfield 7, 3) := by decide +kernel
theorem dX7_blockerOf_4 : decode cX7_blockerOf 4 = .ok (.iload_n 1, 1) := by decide +kernel
theorem dX7_blockerOf_5 : decode cX7_blockerOf 5 = .ok (.iaload, 1) := by decide +kernel
theorem dX7_blockerOf_6 : decode cX7_blockerOf 6 = .ok (.istore 5, 2) := by decide +kernel
theorem dX7_blockerOf_8 : decode cX7_blockerOf 8 = .ok (.iconst 0, 1) := by decide +kernel
theorem dX7_blockerOf_9 : decode cX7_blockerOf 9 = .ok (.istore 6, 2) := by decide +kernel
theorem dX7_blockerOf_11 : decode cX7_blockerOf 11 = .ok (.iload 6, 2) := by decide +kernel
theorem dX7_blockerOf_13 : decode cX7_blockerOf 13 = .ok (.iload 4, 2) := by decide +kernel
theorem dX7_blockerOf_15 : decode cX7_blockerOf 15 = .ok (.if_icmp .ge 93, 3) := by decide +kernel
theorem dX7_blockerOf_18 : decode cX7_blockerOf 18 = .ok (.iconst 2, 1) := by decide +kernel
theorem dX7_blockerOf_19 : decode cX7_blockerOf 19 = .ok (.iload_n 3, 1) := by decide +kernel
theorem dX7_blockerOf_20 : decode cX7_blockerOf 20 = .ok (.iload 5, 2) := by decide +kernel
theorem dX7_blockerOf_22 : decode cX7_blockerOf 22 = .ok (.isub, 1) := by decide +kernel
theorem dX7_blockerOf_23 : decode cX7_blockerOf 23 = .ok (.imul, 1) := by decide +kernel
theorem dX7_blockerOf_24 : decode cX7_blockerOf 24 = .ok (.iload 6, 2) := by decide +kernel
theorem dX7_blockerOf_26 : decode cX7_blockerOf 26 = .ok (.iconst 1, 1) := by decide +kernel
theorem dX7_blockerOf_27 : decode cX7_blockerOf 27 = .ok (.iadd, 1) := by decide +kernel
theorem dX7_blockerOf_28 : decode cX7_blockerOf 28 = .ok (.imul, 1) := by decide +kernel
theorem dX7_blockerOf_29 : decode cX7_blockerOf 29 = .ok (.iload 4, 2) := by decide +kernel
theorem dX7_blockerOf_31 : decode cX7_blockerOf 31 = .ok (.iadd, 1) := by decide +kernel
theorem dX7_blockerOf_32 : decode cX7_blockerOf 32 = .ok (.iconst 1, 1) := by decide +kernel
theorem dX7_blockerOf_33 : decode cX7_blockerOf 33 = .ok (.iadd, 1) := by decide +kernel
theorem dX7_blockerOf_34 : decode cX7_blockerOf 34 = .ok (.istore 7, 2) := by decide +kernel
theorem dX7_blockerOf_36 : decode cX7_blockerOf 36 = .ok (.iconst 2, 1) := by decide +kernel
theorem dX7_blockerOf_37 : decode cX7_blockerOf 37 = .ok (.iload 4, 2) := by decide +kernel
theorem dX7_blockerOf_39 : decode cX7_blockerOf 39 = .ok (.iconst 1, 1) := by decide +kernel
theorem dX7_blockerOf_40 : decode cX7_blockerOf 40 = .ok (.iadd, 1) := by decide +kernel
theorem dX7_blockerOf_41 : decode cX7_blockerOf 41 = .ok (.imul, 1) := by decide +kernel
theorem dX7_blockerOf_42 : decode cX7_blockerOf 42 = .ok (.istore 8, 2) := by decide +kernel
theorem dX7_blockerOf_44 : decode cX7_blockerOf 44 = .ok (.iload 5, 2) := by decide +kernel
theorem dX7_blockerOf_46 : decode cX7_blockerOf 46 = .ok (.iload 7, 2) := by decide +kernel
theorem dX7_blockerOf_48 : decode cX7_blockerOf 48 = .ok (.bipush 100, 2) := by decide +kernel
theorem dX7_blockerOf_50 : decode cX7_blockerOf 50 = .ok (.iload 8, 2) := by decide +kernel
theorem dX7_blockerOf_52 : decode cX7_blockerOf 52 = .ok (.imul, 1) := by decide +kernel
theorem dX7_blockerOf_53 : decode cX7_blockerOf 53 = .ok (.iadd, 1) := by decide +kernel
theorem dX7_blockerOf_54 : decode cX7_blockerOf 54 = .ok (.iload 8, 2) := by decide +kernel
theorem dX7_blockerOf_56 : decode cX7_blockerOf 56 = .ok (.idiv, 1) := by decide +kernel
theorem dX7_blockerOf_57 : decode cX7_blockerOf 57 = .ok (.iadd, 1) := by decide +kernel
theorem dX7_blockerOf_58 : decode cX7_blockerOf 58 = .ok (.bipush 100, 2) := by decide +kernel
theorem dX7_blockerOf_60 : decode cX7_blockerOf 60 = .ok (.isub, 1) := by decide +kernel
theorem dX7_blockerOf_61 : decode cX7_blockerOf 61 = .ok (.istore 9, 2) := by decide +kernel
theorem dX7_blockerOf_63 : decode cX7_blockerOf 63 = .ok (.aload_n 0, 1) := by decide +kernel
theorem dX7_blockerOf_64 : decode cX7_blockerOf 64 = .ok (.getfield 41, 3) := by decide +kernel
theorem dX7_blockerOf_67 : decode cX7_blockerOf 67 = .ok (.aload_n 0, 1) := by decide +kernel
theorem dX7_blockerOf_68 : decode cX7_blockerOf 68 = .ok (.getfield 90, 3) := by decide +kernel
theorem dX7_blockerOf_71 : decode cX7_blockerOf 71 = .ok (.iload 6, 2) := by decide +kernel
theorem dX7_blockerOf_73 : decode cX7_blockerOf 73 = .ok (.imul, 1) := by decide +kernel
theorem dX7_blockerOf_74 : decode cX7_blockerOf 74 = .ok (.iload 9, 2) := by decide +kernel
theorem dX7_blockerOf_76 : decode cX7_blockerOf 76 = .ok (.iadd, 1) := by decide +kernel
theorem dX7_blockerOf_77 : decode cX7_blockerOf 77 = .ok (.iaload, 1) := by decide +kernel
theorem dX7_blockerOf_78 : decode cX7_blockerOf 78 = .ok (.iload 4, 2) := by decide +kernel
theorem dX7_blockerOf_80 : decode cX7_blockerOf 80 = .ok (.iconst 1, 1) := by decide +kernel
theorem dX7_blockerOf_81 : decode cX7_blockerOf 81 = .ok (.iadd, 1) := by decide +kernel
theorem dX7_blockerOf_82 : decode cX7_blockerOf 82 = .ok (.imul, 1) := by decide +kernel
theorem dX7_blockerOf_83 : decode cX7_blockerOf 83 = .ok (.iload_n 2, 1) := by decide +kernel
theorem dX7_blockerOf_84 : decode cX7_blockerOf 84 = .ok (.iload 4, 2) := by decide +kernel
theorem dX7_blockerOf_86 : decode cX7_blockerOf 86 = .ok (.iload 6, 2) := by decide +kernel
theorem dX7_blockerOf_88 : decode cX7_blockerOf 88 = .ok (.isub, 1) := by decide +kernel
theorem dX7_blockerOf_89 : decode cX7_blockerOf 89 = .ok (.imul, 1) := by decide +kernel
theorem dX7_blockerOf_90 : decode cX7_blockerOf 90 = .ok (.if_icmp .le 12, 3) := by decide +kernel
theorem dX7_blockerOf_93 : decode cX7_blockerOf 93 = .ok (.bipush 100, 2) := by decide +kernel
theorem dX7_blockerOf_95 : decode cX7_blockerOf 95 = .ok (.iload 9, 2) := by decide +kernel
theorem dX7_blockerOf_97 : decode cX7_blockerOf 97 = .ok (.imul, 1) := by decide +kernel
theorem dX7_blockerOf_98 : decode cX7_blockerOf 98 = .ok (.iload 6, 2) := by decide +kernel
theorem dX7_blockerOf_100 : decode cX7_blockerOf 100 = .ok (.iadd, 1) := by decide +kernel
theorem dX7_blockerOf_101 : decode cX7_blockerOf 101 = .ok (.ireturn, 1) := by decide +kernel
theorem dX7_blockerOf_102 : decode cX7_blockerOf 102 = .ok (.iinc 6 1, 3) := by decide +kernel
theorem dX7_blockerOf_105 : decode cX7_blockerOf 105 = .ok (.goto (-94), 3) := by decide +kernel
theorem dX7_blockerOf_108 : decode cX7_blockerOf 108 = .ok (.iconst (-1), 1) := by decide +kernel
theorem dX7_blockerOf_109 : decode cX7_blockerOf 109 = .ok (.ireturn, 1) := by decide +kernel
set_option maxRecDepth 20000 in
theorem ggX7_isClear_X7_size : GoodIn wsX7_isClear wsX7_size := goodIn_r _ [5] (by decide +kernel) (by decide +kernel)
set_option maxRecDepth 20000 in
theorem gX7_isClear_X7_size : GoodIn wsX7_isClear (va_wsS RX7 244 yX7_size wsX7_size) := goodIn_app (goodIn_of _ (by decide +kernel)) ggX7_isClear_X7_size
theorem dX7_isClear_0 : decode cX7_isClear 0 = .ok (.iload_n 2, 1) := by decide +kernel
theorem dX7_isClear_1 : decode cX7_isClear 1 = .ok (.aload_n 0, 1) := by decide +kernel
theorem dX7_isClear_2 : decode cX7_isClear 2 = .ok (.getfield 7, 3) := by decide +kernel
theorem dX7_isClear_5 : decode cX7_isClear 5 = .ok (.iload_n 1, 1) := by decide +kernel
theorem dX7_isClear_6 : decode cX7_isClear 6 = .ok (.iaload, 1) := by decide +kernel
theorem dX7_isClear_7 : decode cX7_isClear 7 = .ok (.isub, 1) := by decide +kernel
theorem dX7_isClear_8 : decode cX7_isClear 8 = .ok (.invokestatic 244, 3) := by decide +kernel
theorem dX7_isClear_11 : decode cX7_isClear 11 = .ok (.istore 5, 2) := by decide +kernel
theorem dX7_isClear_13 : decode cX7_isClear 13 = .ok (.iload 4, 2) := by decide +kernel
theorem dX7_isClear_15 : decode cX7_isClear 15 = .ok (.ifCond .lt 18, 3) := by decide +kernel
theorem dX7_isClear_18 : decode cX7_isClear 18 = .ok (.iload 5, 2) := by decide +kernel
theorem dX7_isClear_20 : decode cX7_isClear 20 = .ok (.iload 4, 2) := by decide +kernel
theorem dX7_isClear_22 : decode cX7_isClear 22 = .ok (.if_icmp .gt 15, 3) := by decide +kernel
theorem dX7_isClear_25 : decode cX7_isClear 25 = .ok (.iload_n 3, 1) := by decide +kernel
theorem dX7_isClear_26 : decode cX7_isClear 26 = .ok (.iconst 1, 1) := by decide +kernel
theorem dX7_isClear_27 : decode cX7_isClear 27 = .ok (.iadd, 1) := by decide +kernel
theorem dX7_isClear_28 : decode cX7_isClear 28 = .ok (.iload 4, 2) := by decide +kernel
theorem dX7_isClear_30 : decode cX7_isClear 30 = .ok (.if_icmp .gt 7, 3) := by decide +kernel
theorem dX7_isClear_33 : decode cX7_isClear 33 = .ok (.iconst 1, 1) := by decide +kernel
theorem dX7_isClear_34 : decode cX7_isClear 34 = .ok (.goto 4, 3) := by decide +kernel
theorem dX7_isClear_37 : decode cX7_isClear 37 = .ok (.iconst 0, 1) := by decide +kernel
theorem dX7_isClear_38 : decode cX7_isClear 38 = .ok (.ireturn, 1) := by decide +kernel
set_option maxRecDepth 20000 in
theorem ggX7_canSee_X7_isClear : GoodIn wsX7_canSee wsX7_isClear := goodIn_r _ [5, 6, 7, 8, 4, 9, 23, 24, 25, 26, 27, 28, 29, 30, 31, 32, 33, 34, 35, 36, 37, 38, 39, 40, 41, 42, 43, 44, 45, 46, 47, 48, 49, 50, 51, 52, 53, 54, 55, 56, 57, 58, 59, 60, 61, 62, 63, 64, 65, 66, 67, 68, 69, 70] (by decide +kernel) (by decide +kernel)
set_option maxRecDepth 20000 in
theorem gX7_canSee_X7_isClear : GoodIn wsX7_canSee (wsV RX7 247 RX7 yX7_isClear wsX7_isClear) := goodIn_app (goodIn_of _ (by decide +kernel)) ggX7_canSee_X7_isClear
set_option maxRecDepth 20000 in
theorem ggX7_canSee_X7_eyeOf : GoodIn wsX7_canSee wsX7_eyeOf := goodIn_r _ [13, 14, 15, 16, 23, 24, 25, 26, 27, 28, 29, 30, 31, 32, 33, 34, 35, 36, 37, 38, 39, 40, 41, 42, 43, 44, 45, 46, 47, 48, 49, 50, 51, 52, 53, 54, 55, 56, 57, 58, 59, 60, 61, 62, 63, 64, 65, 66, 67, 68, 69, 70] (by decide +kernel) (by decide +kernel)
set_option maxRecDepth 20000 in
theorem gX7_canSee_X7_eyeOf : GoodIn wsX7_canSee (wsV RX7 251 RX7 yX7_eyeOf wsX7_eyeOf) := goodIn_app (goodIn_of _ (by decide +kernel)) ggX7_canSee_X7_eyeOf
set_option maxRecDepth 20000 in
theorem ggX7_canSee_X7_blockerOf : GoodIn wsX7_canSee wsX7_blockerOf := goodIn_r _ [20, 6, 21, 22, 23, 24, 25, 26, 27, 28, 29, 30, 31, 32, 33, 34, 35, 36, 37, 38, 39, 40, 41, 42, 43, 44, 45, 46, 47, 48, 49, 50, 51, 52, 53, 54, 55, 56, 57, 58, 59, 60, 61, 62, 63, 64, 65, 66, 67, 68, 69, 70] (by decide +kernel) (by decide +kernel)
set_option maxRecDepth 20000 in
theorem gX7_canSee_X7_blockerOf : GoodIn wsX7_canSee (wsV RX7 254 RX7 yX7_blockerOf wsX7_blockerOf) := goodIn_app (goodIn_of _ (by decide +kernel)) ggX7_canSee_X7_blockerOf
theorem dX7_canSee_0 : decode cX7_canSee 0 = .ok (.aload_n 0, 1) := by decide +kernel
theorem dX7_canSee_1 : decode cX7_canSee 1 = .ok (.iload_n 1, 1) := by decide +kernel
theorem dX7_canSee_2 : decode cX7_canSee 2 = .ok (.iload_n 2, 1) := by decide +kernel
theorem dX7_canSee_3 : decode cX7_canSee 3 = .ok (.iload_n 3, 1) := by decide +kernel
theorem dX7_canSee_4 : decode cX7_canSee 4 = .ok (.iload 4, 2) := by decide +kernel
theorem dX7_canSee_6 : decode cX7_canSee 6 = .ok (.invokevirtual 247, 3) := by decide +kernel
theorem dX7_canSee_9 : decode cX7_canSee 9 = .ok (.ifCond .eq 22, 3) := by decide +kernel
theorem dX7_canSee_12 : decode cX7_canSee 12 = .ok (.aload_n 0, 1) := by decide +kernel
theorem dX7_canSee_13 : decode cX7_canSee 13 = .ok (.iload_n 1, 1) := by decide +kernel
theorem dX7_canSee_14 : decode cX7_canSee 14 = .ok (.aload_n 0, 1) := by decide +kernel
theorem dX7_canSee_15 : decode cX7_canSee 15 = .ok (.iload_n 1, 1) := by decide +kernel
theorem dX7_canSee_16 : decode cX7_canSee 16 = .ok (.invokevirtual 251, 3) := by decide +kernel
theorem dX7_canSee_19 : decode cX7_canSee 19 = .ok (.iload_n 2, 1) := by decide +kernel
theorem dX7_canSee_20 : decode cX7_canSee 20 = .ok (.iload_n 3, 1) := by decide +kernel
theorem dX7_canSee_21 : decode cX7_canSee 21 = .ok (.invokevirtual 254, 3) := by decide +kernel
theorem dX7_canSee_24 : decode cX7_canSee 24 = .ok (.ifCond .ge 7, 3) := by decide +kernel
theorem dX7_canSee_27 : decode cX7_canSee 27 = .ok (.iconst 1, 1) := by decide +kernel
theorem dX7_canSee_28 : decode cX7_canSee 28 = .ok (.goto 4, 3) := by decide +kernel
theorem dX7_canSee_31 : decode cX7_canSee 31 = .ok (.iconst 0, 1) := by decide +kernel
theorem dX7_canSee_32 : decode cX7_canSee 32 = .ok (.ireturn, 1) := by decide +kernel
set_option maxRecDepth 20000 in
theorem ggX7_seers_X7_farNow : GoodIn wsX7_seers wsX7_farNow := goodIn_r _ [6, 7, 8, 9, 10, 11, 5, 12, 38, 39, 40, 41, 42, 43, 44, 45, 46, 47, 48, 49, 50, 51, 52, 53, 54, 55, 56, 57, 58, 59, 60, 61, 62, 63, 64, 65, 66, 67, 68, 69, 70, 71, 72, 73, 74, 75, 76, 77, 78, 79, 80, 81, 82, 83, 84, 85] (by decide +kernel) (by decide +kernel)
set_option maxRecDepth 20000 in
theorem gX7_seers_X7_farNow : GoodIn wsX7_seers (wsV RX7 238 RX7 yX7_farNow wsX7_farNow) := goodIn_app (goodIn_of _ (by decide +kernel)) ggX7_seers_X7_farNow
set_option maxRecDepth 20000 in
theorem ggX7_seers_X7_canSee : GoodIn wsX7_seers wsX7_canSee := goodIn_r _ [16, 17, 18, 19, 5, 20, 21, 22, 23, 24, 25, 26, 27, 28, 29, 30, 31, 32, 33, 34, 35, 36, 37, 38, 39, 40, 41, 42, 43, 44, 45, 46, 47, 48, 49, 50, 51, 52, 53, 54, 55, 56, 57, 58, 59, 60, 61, 62, 63, 64, 65, 66, 67, 68, 69, 70, 71, 72, 73, 74, 75, 76, 77, 78, 79, 80, 81, 82, 83, 84, 85] (by decide +kernel) (by decide +kernel)
set_option maxRecDepth 20000 in
theorem gX7_seers_X7_canSee : GoodIn wsX7_seers (wsV RX7 258 RX7 yX7_canSee wsX7_canSee) := goodIn_app (goodIn_of _ (by decide +kernel)) ggX7_seers_X7_canSee
theorem dX7_seers_0 : decode cX7_seers 0 = .ok (.iconst 0, 1) := by decide +kernel
theorem dX7_seers_1 : decode cX7_seers 1 = .ok (.istore_n 3, 1) := by decide +kernel
theorem dX7_seers_2 : decode cX7_seers 2 = .ok (.aload_n 0, 1) := by decide +kernel
theorem dX7_seers_3 : decode cX7_seers 3 = .ok (.invokevirtual 238, 3) := by decide +kernel
theorem dX7_seers_6 : decode cX7_seers 6 = .ok (.istore 4, 2) := by decide +kernel
theorem dX7_seers_8 : decode cX7_seers 8 = .ok (.iconst 0, 1) := by decide +kernel
theorem dX7_seers_9 : decode cX7_seers 9 = .ok (.istore 5, 2) := by decide +kernel
theorem dX7_seers_11 : decode cX7_seers 11 = .ok (.iload 5, 2) := by decide +kernel
theorem dX7_seers_13 : decode cX7_seers 13 = .ok (.aload_n 0, 1) := by decide +kernel
theorem dX7_seers_14 : decode cX7_seers 14 = .ok (.getfield 100, 3) := by decide +kernel
theorem dX7_seers_17 : decode cX7_seers 17 = .ok (.if_icmp .ge 33, 3) := by decide +kernel
theorem dX7_seers_20 : decode cX7_seers 20 = .ok (.iload_n 3, 1) := by decide +kernel
theorem dX7_seers_21 : decode cX7_seers 21 = .ok (.aload_n 0, 1) := by decide +kernel
theorem dX7_seers_22 : decode cX7_seers 22 = .ok (.iload 5, 2) := by decide +kernel
theorem dX7_seers_24 : decode cX7_seers 24 = .ok (.iload_n 1, 1) := by decide +kernel
theorem dX7_seers_25 : decode cX7_seers 25 = .ok (.iload_n 2, 1) := by decide +kernel
theorem dX7_seers_26 : decode cX7_seers 26 = .ok (.iload 4, 2) := by decide +kernel
theorem dX7_seers_28 : decode cX7_seers 28 = .ok (.invokevirtual 258, 3) := by decide +kernel
theorem dX7_seers_31 : decode cX7_seers 31 = .ok (.ifCond .eq 10, 3) := by decide +kernel
theorem dX7_seers_34 : decode cX7_seers 34 = .ok (.iconst 1, 1) := by decide +kernel
theorem dX7_seers_35 : decode cX7_seers 35 = .ok (.iload 5, 2) := by decide +kernel
theorem dX7_seers_37 : decode cX7_seers 37 = .ok (.ishl, 1) := by decide +kernel
theorem dX7_seers_38 : decode cX7_seers 38 = .ok (.goto 4, 3) := by decide +kernel
theorem dX7_seers_41 : decode cX7_seers 41 = .ok (.iconst 0, 1) := by decide +kernel
theorem dX7_seers_42 : decode cX7_seers 42 = .ok (.ior, 1) := by decide +kernel
theorem dX7_seers_43 : decode cX7_seers 43 = .ok (.istore_n 3, 1) := by decide +kernel
theorem dX7_seers_44 : decode cX7_seers 44 = .ok (.iinc 5 1, 3) := by decide +kernel
theorem dX7_seers_47 : decode cX7_seers 47 = .ok (.goto (-36), 3) := by decide +kernel
theorem dX7_seers_50 : decode cX7_seers 50 = .ok (.iload_n 3, 1) := by decide +kernel
theorem dX7_seers_51 : decode cX7_seers 51 = .ok (.ireturn, 1) := by decide +kernel
theorem dX7_nearOf_0 : decode cX7_nearOf 0 = .ok (.iload_n 2, 1) := by decide +kernel
theorem dX7_nearOf_1 : decode cX7_nearOf 1 = .ok (.aload_n 0, 1) := by decide +kernel
theorem dX7_nearOf_2 : decode cX7_nearOf 2 = .ok (.getfield 7, 3) := by decide +kernel
theorem dX7_nearOf_5 : decode cX7_nearOf 5 = .ok (.iload_n 1, 1) := by decide +kernel
theorem dX7_nearOf_6 : decode cX7_nearOf 6 = .ok (.iaload, 1) := by decide +kernel
theorem dX7_nearOf_7 : decode cX7_nearOf 7 = .ok (.isub, 1) := by decide +kernel
theorem dX7_nearOf_8 : decode cX7_nearOf 8 = .ok (.iload_n 2, 1) := by decide +kernel
theorem dX7_nearOf_9 : decode cX7_nearOf 9 = .ok (.aload_n 0, 1) := by decide +kernel
theorem dX7_nearOf_10 : decode cX7_nearOf 10 = .ok (.getfield 7, 3) := by decide +kernel
theorem dX7_nearOf_13 : decode cX7_nearOf 13 = .ok (.iload_n 1, 1) := by decide +kernel
theorem dX7_nearOf_14 : decode cX7_nearOf 14 = .ok (.iaload, 1) := by decide +kernel
theorem dX7_nearOf_15 : decode cX7_nearOf 15 = .ok (.isub, 1) := by decide +kernel
theorem dX7_nearOf_16 : decode cX7_nearOf 16 = .ok (.imul, 1) := by decide +kernel
theorem dX7_nearOf_17 : decode cX7_nearOf 17 = .ok (.iload_n 3, 1) := by decide +kernel
theorem dX7_nearOf_18 : decode cX7_nearOf 18 = .ok (.iconst 1, 1) := by decide +kernel
theorem dX7_nearOf_19 : decode cX7_nearOf 19 = .ok (.iadd, 1) := by decide +kernel
theorem dX7_nearOf_20 : decode cX7_nearOf 20 = .ok (.iload_n 3, 1) := by decide +kernel
theorem dX7_nearOf_21 : decode cX7_nearOf 21 = .ok (.iconst 1, 1) := by decide +kernel
theorem dX7_nearOf_22 : decode cX7_nearOf 22 = .ok (.iadd, 1) := by decide +kernel
theorem dX7_nearOf_23 : decode cX7_nearOf 23 = .ok (.imul, 1) := by decide +kernel
theorem dX7_nearOf_24 : decode cX7_nearOf 24 = .ok (.iadd, 1) := by decide +kernel
theorem dX7_nearOf_25 : decode cX7_nearOf 25 = .ok (.ireturn, 1) := by decide +kernel
set_option maxRecDepth 20000 in
theorem ggX7_ownersOf_X7_has : GoodIn wsX7_ownersOf wsX7_has := goodIn_r _ [6] (by decide +kernel) (by decide +kernel)
set_option maxRecDepth 20000 in
theorem gX7_ownersOf_X7_has : GoodIn wsX7_ownersOf (va_wsS RX7 261 yX7_has wsX7_has) := goodIn_app (goodIn_of _ (by decide +kernel)) ggX7_ownersOf_X7_has
set_option maxRecDepth 20000 in
theorem ggX7_ownersOf_X7_nearOf : GoodIn wsX7_ownersOf wsX7_nearOf := goodIn_r _ [10, 11, 19, 20, 21, 22, 23, 24, 25, 26, 27, 28, 29, 30, 31, 32, 33, 34, 35, 36, 37, 38, 39, 40, 41, 42, 43, 44, 45, 46, 47, 48, 49, 50, 51, 52, 53, 54, 55, 56, 57, 58, 59, 60, 61, 62, 63, 64, 65, 66] (by decide +kernel) (by decide +kernel)
set_option maxRecDepth 20000 in
theorem gX7_ownersOf_X7_nearOf : GoodIn wsX7_ownersOf (wsV RX7 265 RX7 yX7_nearOf wsX7_nearOf) := goodIn_app (goodIn_of _ (by decide +kernel)) ggX7_ownersOf_X7_nearOf
set_option maxRecDepth 20000 in
theorem ggX7_ownersOf_X7_eyeOf : GoodIn wsX7_ownersOf wsX7_eyeOf := goodIn_r _ [15, 16, 17, 18, 19, 20, 21, 22, 23, 24, 25, 26, 27, 28, 29, 30, 31, 32, 33, 34, 35, 36, 37, 38, 39, 40, 41, 42, 43, 44, 45, 46, 47, 48, 49, 50, 51, 52, 53, 54, 55, 56, 57, 58, 59, 60, 61, 62, 63, 64, 65, 66] (by decide +kernel) (by decide +kernel)
set_option maxRecDepth 20000 in
theorem gX7_ownersOf_X7_eyeOf : GoodIn wsX7_ownersOf (wsV RX7 251 RX7 yX7_eyeOf wsX7_eyeOf) := goodIn_app (goodIn_of _ (by decide +kernel)) ggX7_ownersOf_X7_eyeOf
theorem dX7_ownersOf_0 : decode cX7_ownersOf 0 = .ok (.aload_n 0, 1) := by decide +kernel
theorem dX7_ownersOf_1 : decode cX7_ownersOf 1 = .ok (.getfield 235, 3) := by decide +kernel
theorem dX7_ownersOf_4 : decode cX7_ownersOf 4 = .ok (.ifCond .eq 7, 3) := by decide +kernel
theorem dX7_ownersOf_7 : decode cX7_ownersOf 7 = .ok (.iload_n 1, 1) := by decide +kernel
theorem dX7_ownersOf_8 : decode cX7_ownersOf 8 = .ok (.ifCond .ne 5, 3) := by decide +kernel
theorem dX7_ownersOf_11 : decode cX7_ownersOf 11 = .ok (.iload_n 1, 1) := by decide +kernel
theorem dX7_ownersOf_12 : decode cX7_ownersOf 12 = .ok (.ireturn, 1) := by decide +kernel
theorem dX7_ownersOf_13 : decode cX7_ownersOf 13 = .ok (.iconst (-1), 1) := by decide +kernel
theorem dX7_ownersOf_14 : decode cX7_ownersOf 14 = .ok (.istore 4, 2) := by decide +kernel
theorem dX7_ownersOf_16 : decode cX7_ownersOf 16 = .ok (.iconst 0, 1) := by decide +kernel
theorem dX7_ownersOf_17 : decode cX7_ownersOf 17 = .ok (.istore 5, 2) := by decide +kernel
theorem dX7_ownersOf_19 : decode cX7_ownersOf 19 = .ok (.iload 5, 2) := by decide +kernel
theorem dX7_ownersOf_21 : decode cX7_ownersOf 21 = .ok (.aload_n 0, 1) := by decide +kernel
theorem dX7_ownersOf_22 : decode cX7_ownersOf 22 = .ok (.getfield 100, 3) := by decide +kernel
theorem dX7_ownersOf_25 : decode cX7_ownersOf 25 = .ok (.if_icmp .ge 89, 3) := by decide +kernel
theorem dX7_ownersOf_28 : decode cX7_ownersOf 28 = .ok (.iload_n 1, 1) := by decide +kernel
theorem dX7_ownersOf_29 : decode cX7_ownersOf 29 = .ok (.iload 5, 2) := by decide +kernel
theorem dX7_ownersOf_31 : decode cX7_ownersOf 31 = .ok (.invokestatic 261, 3) := by decide +kernel
theorem dX7_ownersOf_34 : decode cX7_ownersOf 34 = .ok (.ifCond .eq 74, 3) := by decide +kernel
theorem dX7_ownersOf_37 : decode cX7_ownersOf 37 = .ok (.iload 4, 2) := by decide +kernel
theorem dX7_ownersOf_39 : decode cX7_ownersOf 39 = .ok (.ifCond .lt 48, 3) := by decide +kernel
theorem dX7_ownersOf_42 : decode cX7_ownersOf 42 = .ok (.aload_n 0, 1) := by decide +kernel
theorem dX7_ownersOf_43 : decode cX7_ownersOf 43 = .ok (.getfield 235, 3) := by decide +kernel
theorem dX7_ownersOf_46 : decode cX7_ownersOf 46 = .ok (.iconst 1, 1) := by decide +kernel
theorem dX7_ownersOf_47 : decode cX7_ownersOf 47 = .ok (.if_icmp .ne 25, 3) := by decide +kernel
theorem dX7_ownersOf_50 : decode cX7_ownersOf 50 = .ok (.aload_n 0, 1) := by decide +kernel
theorem dX7_ownersOf_51 : decode cX7_ownersOf 51 = .ok (.iload 5, 2) := by decide +kernel
theorem dX7_ownersOf_53 : decode cX7_ownersOf 53 = .ok (.iload_n 2, 1) := by decide +kernel
theorem dX7_ownersOf_54 : decode cX7_ownersOf 54 = .ok (.iload_n 3, 1) := by decide +kernel
theorem dX7_ownersOf_55 : decode cX7_ownersOf 55 = .ok (.invokevirtual 265, 3) := by decide +kernel
theorem dX7_ownersOf_58 : decode cX7_ownersOf 58 = .ok (.aload_n 0, 1) := by decide +kernel
theorem dX7_ownersOf_59 : decode cX7_ownersOf 59 = .ok (.iload 4, 2) := by decide +kernel
theorem dX7_ownersOf_61 : decode cX7_ownersOf 61 = .ok (.iload_n 2, 1) := by decide +kernel
theorem dX7_ownersOf_62 : decode cX7_ownersOf 62 = .ok (.iload_n 3, 1) := by decide +kernel
theorem dX7_ownersOf_63 : decode cX7_ownersOf 63 = .ok (.invokevirtual 265, 3) := by decide +kernel
theorem dX7_ownersOf_66 : decode cX7_ownersOf 66 = .ok (.if_icmp .ge 25, 3) := by decide +kernel
theorem dX7_ownersOf_69 : decode cX7_ownersOf 69 = .ok (.goto 18, 3) := by decide +kernel
theorem dX7_ownersOf_72 : decode cX7_ownersOf 72 = .ok (.aload_n 0, 1) := by decide +kernel
theorem dX7_ownersOf_73 : decode cX7_ownersOf 73 = .ok (.iload 5, 2) := by decide +kernel
theorem dX7_ownersOf_75 : decode cX7_ownersOf 75 = .ok (.invokevirtual 251, 3) := by decide +kernel
theorem dX7_ownersOf_78 : decode cX7_ownersOf 78 = .ok (.aload_n 0, 1) := by decide +kernel
theorem dX7_ownersOf_79 : decode cX7_ownersOf 79 = .ok (.iload 4, 2) := by decide +kernel
theorem dX7_ownersOf_81 : decode cX7_ownersOf 81 = .ok (.invokevirtual 251, 3) := by decide +kernel
theorem dX7_ownersOf_84 : decode cX7_ownersOf 84 = .ok (.if_icmp .le 7, 3) := by decide +kernel
theorem dX7_ownersOf_87 : decode cX7_ownersOf 87 = .ok (.iconst 1, 1) := by decide +kernel
theorem dX7_ownersOf_88 : decode cX7_ownersOf 88 = .ok (.goto 4, 3) := by decide +kernel
theorem dX7_ownersOf_91 : decode cX7_ownersOf 91 = .ok (.iconst 0, 1) := by decide +kernel
theorem dX7_ownersOf_92 : decode cX7_ownersOf 92 = .ok (.istore 6, 2) := by decide +kernel
theorem dX7_ownersOf_94 : decode cX7_ownersOf 94 = .ok (.iload 6, 2) := by decide +kernel
theorem dX7_ownersOf_96 : decode cX7_ownersOf 96 = .ok (.ifCond .eq 8, 3) := by decide +kernel
theorem dX7_ownersOf_99 : decode cX7_ownersOf 99 = .ok (.iload 5, 2) := by decide +kernel
theorem dX7_ownersOf_101 : decode cX7_ownersOf 101 = .ok (.goto 5, 3) := by decide +kernel
theorem dX7_ownersOf_104 : decode cX7_ownersOf 104 = .ok (.iload 4, 2) := by decide +kernel
theorem dX7_ownersOf_106 : decode cX7_ownersOf 106 = .ok (.istore 4, 2) := by decide +kernel
theorem dX7_ownersOf_108 : decode cX7_ownersOf 108 = .ok (.iinc 5 1, 3) := by decide +kernel
theorem dX7_ownersOf_111 : decode cX7_ownersOf 111 = .ok (.goto (-92), 3) := by decide +kernel
theorem dX7_ownersOf_114 : decode cX7_ownersOf 114 = .ok (.iconst 1, 1) := by decide +kernel
theorem dX7_ownersOf_115 : decode cX7_ownersOf 115 = .ok (.iload 4, 2) := by decide +kernel
theorem dX7_ownersOf_117 : decode cX7_ownersOf 117 = .ok (.ishl, 1) := by decide +kernel
theorem dX7_ownersOf_118 : decode cX7_ownersOf 118 = .ok (.ireturn, 1) := by decide +kernel
theorem dX7_bits_0 : decode cX7_bits 0 = .ok (.iconst 0, 1) := by decide +kernel
theorem dX7_bits_1 : decode cX7_bits 1 = .ok (.istore_n 1, 1) := by decide +kernel
theorem dX7_bits_2 : decode cX7_bits 2 = .ok (.iconst 0, 1) := by decide +kernel
theorem dX7_bits_3 : decode cX7_bits 3 = .ok (.istore_n 2, 1) := by decide +kernel
theorem dX7_bits_4 : decode cX7_bits 4 = .ok (.iload_n 2, 1) := by decide +kernel
theorem dX7_bits_5 : decode cX7_bits 5 = .ok (.bipush 6, 2) := by decide +kernel
theorem dX7_bits_7 : decode cX7_bits 7 = .ok (.if_icmp .ge 17, 3) := by decide +kernel
theorem dX7_bits_10 : decode cX7_bits 10 = .ok (.iload_n 1, 1) := by decide +kernel
theorem dX7_bits_11 : decode cX7_bits 11 = .ok (.iload_n 0, 1) := by decide +kernel
theorem dX7_bits_12 : decode cX7_bits 12 = .ok (.iload_n 2, 1) := by decide +kernel
theorem dX7_bits_13 : decode cX7_bits 13 = .ok (.ishr, 1) := by decide +kernel
theorem dX7_bits_14 : decode cX7_bits 14 = .ok (.iconst 1, 1) := by decide +kernel
theorem dX7_bits_15 : decode cX7_bits 15 = .ok (.iand, 1) := by decide +kernel
theorem dX7_bits_16 : decode cX7_bits 16 = .ok (.iadd, 1) := by decide +kernel
theorem dX7_bits_17 : decode cX7_bits 17 = .ok (.istore_n 1, 1) := by decide +kernel
theorem dX7_bits_18 : decode cX7_bits 18 = .ok (.iinc 2 1, 3) := by decide +kernel
theorem dX7_bits_21 : decode cX7_bits 21 = .ok (.goto (-17), 3) := by decide +kernel
theorem dX7_bits_24 : decode cX7_bits 24 = .ok (.iload_n 1, 1) := by decide +kernel
theorem dX7_bits_25 : decode cX7_bits 25 = .ok (.ireturn, 1) := by decide +kernel
set_option maxRecDepth 20000 in
theorem ggX7_hasOf_X7_seers : GoodIn wsX7_hasOf wsX7_seers := goodIn_r _ [7, 8, 9, 10, 11, 6, 12, 13, 14, 15, 16, 17, 18, 19, 20, 21, 22, 23, 24, 25, 26, 27, 28, 29, 30, 31, 32, 33, 34, 35, 36, 37, 38, 39, 40, 41, 42, 2, 58, 59, 60, 61, 62, 63, 64, 65, 66, 67, 68, 69, 70, 71, 72, 73, 74, 75, 76, 77, 78, 79, 80, 81, 82, 83, 84, 85, 86, 87, 88, 89, 90, 91, 92, 93, 94, 95, 96, 97, 98, 99, 100, 101, 102, 103, 104, 105] (by decide +kernel) (by decide +kernel)
set_option maxRecDepth 20000 in
theorem gX7_hasOf_X7_seers : GoodIn wsX7_hasOf (wsV RX7 269 RX7 yX7_seers wsX7_seers) := goodIn_app (goodIn_of _ (by decide +kernel)) ggX7_hasOf_X7_seers
set_option maxRecDepth 20000 in
theorem ggX7_hasOf_X7_ownersOf : GoodIn wsX7_hasOf wsX7_ownersOf := goodIn_r _ [46, 47, 8, 48, 49, 6, 50, 51, 52, 53, 54, 27, 31, 32, 33, 34, 35, 36, 37, 58, 59, 60, 61, 62, 63, 64, 65, 66, 67, 68, 69, 70, 71, 72, 73, 74, 75, 76, 77, 78, 79, 80, 81, 82, 83, 84, 85, 86, 87, 88, 89, 90, 91, 92, 93, 94, 95, 96, 97, 98, 99, 100, 101, 102, 103, 104, 105] (by decide +kernel) (by decide +kernel)
set_option maxRecDepth 20000 in
theorem gX7_hasOf_X7_ownersOf : GoodIn wsX7_hasOf (wsV RX7 272 RX7 yX7_ownersOf wsX7_ownersOf) := goodIn_app (goodIn_of _ (by decide +kernel)) ggX7_hasOf_X7_ownersOf
set_option maxRecDepth 20000 in
theorem ggX7_hasOf_X7_has : GoodIn wsX7_hasOf wsX7_has := goodIn_r _ [50] (by decide +kernel) (by decide +kernel)
set_option maxRecDepth 20000 in
theorem gX7_hasOf_X7_has : GoodIn wsX7_hasOf (va_wsS RX7 261 yX7_has wsX7_has) := goodIn_app (goodIn_of _ (by decide +kernel)) ggX7_hasOf_X7_has
set_option maxRecDepth 20000 in
theorem ggX7_hasOf_X7_bits : GoodIn wsX7_hasOf wsX7_bits := goodIn_r _ [57] (by decide +kernel) (by decide +kernel)
set_option maxRecDepth 20000 in
theorem gX7_hasOf_X7_bits : GoodIn wsX7_hasOf (va_wsS RX7 275 yX7_bits wsX7_bits) := goodIn_app (goodIn_of _ (by decide +kernel)) ggX7_hasOf_X7_bits
theorem dX7_hasOf_0 : decode cX7_hasOf 0 = .ok (.aload_n 0, 1) := by decide +kernel
theorem dX7_hasOf_1 : decode cX7_hasOf 1 = .ok (.aload_n 0, 1) := by decide +kernel
theorem dX7_hasOf_2 : decode cX7_hasOf 2 = .ok (.iload_n 2, 1) := by decide +kernel
theorem dX7_hasOf_3 : decode cX7_hasOf 3 = .ok (.iload_n 3, 1) := by decide +kernel
theorem dX7_hasOf_4 : decode cX7_hasOf 4 = .ok (.invokevirtual 269, 3) := by decide +kernel
theorem dX7_hasOf_7 : decode cX7_hasOf 7 = .ok (.iload_n 2, 1) := by decide +kernel
theorem dX7_hasOf_8 : decode cX7_hasOf 8 = .ok (.iload_n 3, 1) := by decide +kernel
theorem dX7_hasOf_9 : decode cX7_hasOf 9 = .ok (.invokevirtual 272, 3) := by decide +kernel
theorem dX7_hasOf_12 : decode cX7_hasOf 12 = .ok (.istore 4, 2) := by decide +kernel
theorem dX7_hasOf_14 : decode cX7_hasOf 14 = .ok (.iload 4, 2) := by decide +kernel
theorem dX7_hasOf_16 : decode cX7_hasOf 16 = .ok (.iload_n 1, 1) := by decide +kernel
theorem dX7_hasOf_17 : decode cX7_hasOf 17 = .ok (.invokestatic 261, 3) := by decide +kernel
theorem dX7_hasOf_20 : decode cX7_hasOf 20 = .ok (.ifCond .eq 25, 3) := by decide +kernel
theorem dX7_hasOf_23 : decode cX7_hasOf 23 = .ok (.aload_n 0, 1) := by decide +kernel
theorem dX7_hasOf_24 : decode cX7_hasOf 24 = .ok (.getfield 22, 3) := by decide +kernel
theorem dX7_hasOf_27 : decode cX7_hasOf 27 = .ok (.aload_n 0, 1) := by decide +kernel
theorem dX7_hasOf_28 : decode cX7_hasOf 28 = .ok (.getfield 90, 3) := by decide +kernel
theorem dX7_hasOf_31 : decode cX7_hasOf 31 = .ok (.iload_n 3, 1) := by decide +kernel
theorem dX7_hasOf_32 : decode cX7_hasOf 32 = .ok (.imul, 1) := by decide +kernel
theorem dX7_hasOf_33 : decode cX7_hasOf 33 = .ok (.iload_n 2, 1) := by decide +kernel
theorem dX7_hasOf_34 : decode cX7_hasOf 34 = .ok (.iadd, 1) := by decide +kernel
theorem dX7_hasOf_35 : decode cX7_hasOf 35 = .ok (.iaload, 1) := by decide +kernel
theorem dX7_hasOf_36 : decode cX7_hasOf 36 = .ok (.iload 4, 2) := by decide +kernel
theorem dX7_hasOf_38 : decode cX7_hasOf 38 = .ok (.invokestatic 275, 3) := by decide +kernel
theorem dX7_hasOf_41 : decode cX7_hasOf 41 = .ok (.idiv, 1) := by decide +kernel
theorem dX7_hasOf_42 : decode cX7_hasOf 42 = .ok (.goto 4, 3) := by decide +kernel
theorem dX7_hasOf_45 : decode cX7_hasOf 45 = .ok (.iconst (-1), 1) := by decide +kernel
theorem dX7_hasOf_46 : decode cX7_hasOf 46 = .ok (.ireturn, 1) := by decide +kernel
set_option maxRecDepth 20000 in
theorem ggX7_shareOf_X7_cells : GoodIn wsX7_shareOf wsX7_cells := goodIn_r _ [6, 1, 7, 67, 68, 69, 70, 71, 72, 73, 74, 75, 76, 77, 78, 79, 80, 81, 82, 83, 84, 85, 86, 87, 88, 89, 90, 91, 92, 93, 94, 95, 96, 97, 98, 99, 100, 101, 102, 103, 104, 105, 106, 107, 108, 109, 110, 111, 112, 113, 114] (by decide +kernel) (by decide +kernel)
set_option maxRecDepth 20000 in
theorem gX7_shareOf_X7_cells : GoodIn wsX7_shareOf (wsV RX7 232 RX7 yX7_cells wsX7_cells) := goodIn_app (goodIn_of _ (by decide +kernel)) ggX7_shareOf_X7_cells
set_option maxRecDepth 20000 in
theorem ggX7_shareOf_X7_hasOf : GoodIn wsX7_shareOf wsX7_hasOf := goodIn_r _ [11, 12, 1, 13, 14, 15, 5, 16, 17, 18, 19, 20, 21, 22, 23, 24, 25, 26, 27, 28, 29, 30, 31, 32, 33, 34, 35, 36, 37, 38, 39, 40, 41, 42, 43, 44, 45, 46, 47, 48, 49, 50, 51, 52, 53, 54, 55, 56, 57, 58, 59, 60, 61, 62, 63, 64, 65, 66, 67, 68, 69, 70, 71, 72, 73, 74, 75, 76, 77, 78, 79, 80, 81, 82, 83, 84, 85, 86, 87, 88, 89, 90, 91, 92, 93, 94, 95, 96, 97, 98, 99, 100, 101, 102, 103, 104, 105, 106, 107, 108, 109, 110, 111, 112, 113, 114] (by decide +kernel) (by decide +kernel)
set_option maxRecDepth 20000 in
theorem gX7_shareOf_X7_hasOf : GoodIn wsX7_shareOf (wsV RX7 278 RX7 yX7_hasOf wsX7_hasOf) := goodIn_app (goodIn_of _ (by decide +kernel)) ggX7_shareOf_X7_hasOf
theorem dX7_shareOf_0 : decode cX7_shareOf 0 = .ok (.iconst 0, 1) := by decide +kernel
theorem dX7_shareOf_1 : decode cX7_shareOf 1 = .ok (.istore_n 2, 1) := by decide +kernel
theorem dX7_shareOf_2 : decode cX7_shareOf 2 = .ok (.iconst 0, 1) := by decide +kernel
theorem dX7_shareOf_3 : decode cX7_shareOf 3 = .ok (.istore_n 3, 1) := by decide +kernel
theorem dX7_shareOf_4 : decode cX7_shareOf 4 = .ok (.iload_n 3, 1) := by decide +kernel
theorem dX7_shareOf_5 : decode cX7_shareOf 5 = .ok (.aload_n 0, 1) := by decide +kernel
theorem dX7_shareOf_6 : decode cX7_shareOf 6 = .ok (.invokevirtual 232, 3) := by decide +kernel
theorem dX7_shareOf_9 : decode cX7_shareOf 9 = .ok (.if_icmp .ge 42, 3) := by decide +kernel
theorem dX7_shareOf_12 : decode cX7_shareOf 12 = .ok (.aload_n 0, 1) := by decide +kernel
theorem dX7_shareOf_13 : decode cX7_shareOf 13 = .ok (.iload_n 1, 1) := by decide +kernel
theorem dX7_shareOf_14 : decode cX7_shareOf 14 = .ok (.iload_n 3, 1) := by decide +kernel
theorem dX7_shareOf_15 : decode cX7_shareOf 15 = .ok (.aload_n 0, 1) := by decide +kernel
theorem dX7_shareOf_16 : decode cX7_shareOf 16 = .ok (.getfield 90, 3) := by decide +kernel
theorem dX7_shareOf_19 : decode cX7_shareOf 19 = .ok (.irem, 1) := by decide +kernel
theorem dX7_shareOf_20 : decode cX7_shareOf 20 = .ok (.iload_n 3, 1) := by decide +kernel
theorem dX7_shareOf_21 : decode cX7_shareOf 21 = .ok (.aload_n 0, 1) := by decide +kernel
theorem dX7_shareOf_22 : decode cX7_shareOf 22 = .ok (.getfield 90, 3) := by decide +kernel
theorem dX7_shareOf_25 : decode cX7_shareOf 25 = .ok (.idiv, 1) := by decide +kernel
theorem dX7_shareOf_26 : decode cX7_shareOf 26 = .ok (.invokevirtual 278, 3) := by decide +kernel
theorem dX7_shareOf_29 : decode cX7_shareOf 29 = .ok (.istore 4, 2) := by decide +kernel
theorem dX7_shareOf_31 : decode cX7_shareOf 31 = .ok (.iload_n 2, 1) := by decide +kernel
theorem dX7_shareOf_32 : decode cX7_shareOf 32 = .ok (.iload 4, 2) := by decide +kernel
theorem dX7_shareOf_34 : decode cX7_shareOf 34 = .ok (.ifCond .ge 7, 3) := by decide +kernel
theorem dX7_shareOf_37 : decode cX7_shareOf 37 = .ok (.iconst 0, 1) := by decide +kernel
theorem dX7_shareOf_38 : decode cX7_shareOf 38 = .ok (.goto 5, 3) := by decide +kernel
theorem dX7_shareOf_41 : decode cX7_shareOf 41 = .ok (.iload 4, 2) := by decide +kernel
theorem dX7_shareOf_43 : decode cX7_shareOf 43 = .ok (.iadd, 1) := by decide +kernel
theorem dX7_shareOf_44 : decode cX7_shareOf 44 = .ok (.istore_n 2, 1) := by decide +kernel
theorem dX7_shareOf_45 : decode cX7_shareOf 45 = .ok (.iinc 3 1, 3) := by decide +kernel
theorem dX7_shareOf_48 : decode cX7_shareOf 48 = .ok (.goto (-44), 3) := by decide +kernel
theorem dX7_shareOf_51 : decode cX7_shareOf 51 = .ok (.iload_n 2, 1) := by decide +kernel
theorem dX7_shareOf_52 : decode cX7_shareOf 52 = .ok (.ireturn, 1) := by decide +kernel
set_option maxRecDepth 20000 in
theorem ggX7_countFree_X7_cells : GoodIn wsX7_countFree wsX7_cells := goodIn_r _ [6, 1, 7, 47, 48, 49, 50, 51, 52, 53, 54, 55, 56, 57, 58, 59, 60, 61, 62, 63, 64, 65, 66, 67, 68, 69, 70, 71, 72, 73, 74, 75, 76, 77, 78, 79, 80, 81, 82, 83, 84, 85, 86, 87, 88, 89, 90, 91, 92, 93, 94] (by decide +kernel) (by decide +kernel)
set_option maxRecDepth 20000 in
theorem gX7_countFree_X7_cells : GoodIn wsX7_countFree (wsV RX7 232 RX7 yX7_cells wsX7_cells) := goodIn_app (goodIn_of _ (by decide +kernel)) ggX7_countFree_X7_cells
set_option maxRecDepth 20000 in
theorem ggX7_countFree_X7_seers : GoodIn wsX7_countFree wsX7_seers := goodIn_r _ [11, 12, 13, 14, 15, 5, 16, 17, 18, 19, 20, 21, 22, 23, 24, 25, 26, 27, 28, 29, 30, 31, 32, 33, 34, 35, 36, 37, 38, 39, 40, 41, 42, 43, 44, 45, 46, 1, 47, 48, 49, 50, 51, 52, 53, 54, 55, 56, 57, 58, 59, 60, 61, 62, 63, 64, 65, 66, 67, 68, 69, 70, 71, 72, 73, 74, 75, 76, 77, 78, 79, 80, 81, 82, 83, 84, 85, 86, 87, 88, 89, 90, 91, 92, 93, 94] (by decide +kernel) (by decide +kernel)
set_option maxRecDepth 20000 in
theorem gX7_countFree_X7_seers : GoodIn wsX7_countFree (wsV RX7 269 RX7 yX7_seers wsX7_seers) := goodIn_app (goodIn_of _ (by decide +kernel)) ggX7_countFree_X7_seers
theorem dX7_countFree_0 : decode cX7_countFree 0 = .ok (.iconst 0, 1) := by decide +kernel
theorem dX7_countFree_1 : decode cX7_countFree 1 = .ok (.istore_n 1, 1) := by decide +kernel
theorem dX7_countFree_2 : decode cX7_countFree 2 = .ok (.iconst 0, 1) := by decide +kernel
theorem dX7_countFree_3 : decode cX7_countFree 3 = .ok (.istore_n 2, 1) := by decide +kernel
theorem dX7_countFree_4 : decode cX7_countFree 4 = .ok (.iload_n 2, 1) := by decide +kernel
theorem dX7_countFree_5 : decode cX7_countFree 5 = .ok (.aload_n 0, 1) := by decide +kernel
theorem dX7_countFree_6 : decode cX7_countFree 6 = .ok (.invokevirtual 232, 3) := by decide +kernel
theorem dX7_countFree_9 : decode cX7_countFree 9 = .ok (.if_icmp .ge 36, 3) := by decide +kernel
theorem dX7_countFree_12 : decode cX7_countFree 12 = .ok (.iload_n 1, 1) := by decide +kernel
theorem dX7_countFree_13 : decode cX7_countFree 13 = .ok (.aload_n 0, 1) := by decide +kernel
theorem dX7_countFree_14 : decode cX7_countFree 14 = .ok (.iload_n 2, 1) := by decide +kernel
theorem dX7_countFree_15 : decode cX7_countFree 15 = .ok (.aload_n 0, 1) := by decide +kernel
theorem dX7_countFree_16 : decode cX7_countFree 16 = .ok (.getfield 90, 3) := by decide +kernel
theorem dX7_countFree_19 : decode cX7_countFree 19 = .ok (.irem, 1) := by decide +kernel
theorem dX7_countFree_20 : decode cX7_countFree 20 = .ok (.iload_n 2, 1) := by decide +kernel
theorem dX7_countFree_21 : decode cX7_countFree 21 = .ok (.aload_n 0, 1) := by decide +kernel
theorem dX7_countFree_22 : decode cX7_countFree 22 = .ok (.getfield 90, 3) := by decide +kernel
theorem dX7_countFree_25 : decode cX7_countFree 25 = .ok (.idiv, 1) := by decide +kernel
theorem dX7_countFree_26 : decode cX7_countFree 26 = .ok (.invokevirtual 269, 3) := by decide +kernel
theorem dX7_countFree_29 : decode cX7_countFree 29 = .ok (.ifCond .ne 7, 3) := by decide +kernel
theorem dX7_countFree_32 : decode cX7_countFree 32 = .ok (.iconst 1, 1) := by decide +kernel
theorem dX7_countFree_33 : decode cX7_countFree 33 = .ok (.goto 4, 3) := by decide +kernel
theorem dX7_countFree_36 : decode cX7_countFree 36 = .ok (.iconst 0, 1) := by decide +kernel
theorem dX7_countFree_37 : decode cX7_countFree 37 = .ok (.iadd, 1) := by decide +kernel
theorem dX7_countFree_38 : decode cX7_countFree 38 = .ok (.istore_n 1, 1) := by decide +kernel
theorem dX7_countFree_39 : decode cX7_countFree 39 = .ok (.iinc 2 1, 3) := by decide +kernel
theorem dX7_countFree_42 : decode cX7_countFree 42 = .ok (.goto (-38), 3) := by decide +kernel
theorem dX7_countFree_45 : decode cX7_countFree 45 = .ok (.iload_n 1, 1) := by decide +kernel
theorem dX7_countFree_46 : decode cX7_countFree 46 = .ok (.ireturn, 1) := by decide +kernel
set_option maxRecDepth 20000 in
theorem ggX7_cell_X7_isCell : GoodIn wsX7_cell wsX7_isCell := goodIn_r _ [10, 3, 11, 12, 13, 9, 14, 62, 63, 64, 65, 66, 67, 68, 69, 70, 71, 72, 73, 74, 75, 76, 77, 78, 79, 80, 81, 82, 83, 84, 85, 86, 87, 88, 89, 90, 91, 92, 93, 94, 95, 96, 97, 98, 99, 100, 101, 102, 103, 104, 105, 106, 107, 108, 109] (by decide +kernel) (by decide +kernel)
set_option maxRecDepth 20000 in
theorem gX7_cell_X7_isCell : GoodIn wsX7_cell (wsV RX7 281 RX7 yX7_isCell wsX7_isCell) := goodIn_app (goodIn_of _ (by decide +kernel)) ggX7_cell_X7_isCell
set_option maxRecDepth 20000 in
theorem ggX7_cell_X7_seers : GoodIn wsX7_cell wsX7_seers := goodIn_r _ [18, 19, 20, 21, 22, 9, 23, 24, 25, 26, 12, 13, 14, 27, 28, 29, 30, 31, 32, 33, 34, 35, 36, 37, 38, 39, 40, 41, 42, 43, 44, 45, 46, 47, 48, 49, 2, 3, 62, 63, 64, 65, 66, 67, 68, 69, 70, 71, 72, 73, 74, 75, 76, 77, 78, 79, 80, 81, 82, 83, 84, 85, 86, 87, 88, 89, 90, 91, 92, 93, 94, 95, 96, 97, 98, 99, 100, 101, 102, 103, 104, 105, 106, 107, 108, 109] (by decide +kernel) (by decide +kernel)
set_option maxRecDepth 20000 in
theorem gX7_cell_X7_seers : GoodIn wsX7_cell (wsV RX7 269 RX7 yX7_seers wsX7_seers) := goodIn_app (goodIn_of _ (by decide +kernel)) ggX7_cell_X7_seers
set_option maxRecDepth 20000 in
theorem ggX7_cell_X7_ownersOf : GoodIn wsX7_cell wsX7_ownersOf := goodIn_r _ [53, 54, 19, 55, 56, 9, 57, 58, 59, 60, 61, 35, 39, 40, 41, 42, 43, 44, 45, 62, 63, 64, 65, 66, 67, 68, 69, 70, 71, 72, 73, 74, 75, 76, 77, 78, 79, 80, 81, 82, 83, 84, 85, 86, 87, 88, 89, 90, 91, 92, 93, 94, 95, 96, 97, 98, 99, 100, 101, 102, 103, 104, 105, 106, 107, 108, 109] (by decide +kernel) (by decide +kernel)
set_option maxRecDepth 20000 in
theorem gX7_cell_X7_ownersOf : GoodIn wsX7_cell (wsV RX7 272 RX7 yX7_ownersOf wsX7_ownersOf) := goodIn_app (goodIn_of _ (by decide +kernel)) ggX7_cell_X7_ownersOf
theorem dX7_cell_0 : decode cX7_cell 0 = .ok (.aload_n 0, 1) := by decide +kernel
theorem dX7_cell_1 : decode cX7_cell 1 = .ok (.iload_n 1, 1) := by decide +kernel
theorem dX7_cell_2 : decode cX7_cell 2 = .ok (.iload_n 2, 1) := by decide +kernel
theorem dX7_cell_3 : decode cX7_cell 3 = .ok (.invokevirtual 281, 3) := by decide +kernel
theorem dX7_cell_6 : decode cX7_cell 6 = .ok (.ifCond .ne 7, 3) := by decide +kernel
theorem dX7_cell_9 : decode cX7_cell 9 = .ok (.ldc_w 284, 3) := by decide +kernel
theorem dX7_cell_12 : decode cX7_cell 12 = .ok (.ireturn, 1) := by decide +kernel
theorem dX7_cell_13 : decode cX7_cell 13 = .ok (.iload_n 3, 1) := by decide +kernel
theorem dX7_cell_14 : decode cX7_cell 14 = .ok (.tableswitch 78 0 3 #[30, 44, 58, 65], 30) := by decide +kernel
theorem dX7_cell_44 : decode cX7_cell 44 = .ok (.aload_n 0, 1) := by decide +kernel
theorem dX7_cell_45 : decode cX7_cell 45 = .ok (.getfield 41, 3) := by decide +kernel
theorem dX7_cell_48 : decode cX7_cell 48 = .ok (.aload_n 0, 1) := by decide +kernel
theorem dX7_cell_49 : decode cX7_cell 49 = .ok (.getfield 90, 3) := by decide +kernel
theorem dX7_cell_52 : decode cX7_cell 52 = .ok (.iload_n 2, 1) := by decide +kernel
theorem dX7_cell_53 : decode cX7_cell 53 = .ok (.imul, 1) := by decide +kernel
theorem dX7_cell_54 : decode cX7_cell 54 = .ok (.iload_n 1, 1) := by decide +kernel
theorem dX7_cell_55 : decode cX7_cell 55 = .ok (.iadd, 1) := by decide +kernel
theorem dX7_cell_56 : decode cX7_cell 56 = .ok (.iaload, 1) := by decide +kernel
theorem dX7_cell_57 : decode cX7_cell 57 = .ok (.ireturn, 1) := by decide +kernel
theorem dX7_cell_58 : decode cX7_cell 58 = .ok (.aload_n 0, 1) := by decide +kernel
theorem dX7_cell_59 : decode cX7_cell 59 = .ok (.getfield 22, 3) := by decide +kernel
theorem dX7_cell_62 : decode cX7_cell 62 = .ok (.aload_n 0, 1) := by decide +kernel
theorem dX7_cell_63 : decode cX7_cell 63 = .ok (.getfield 90, 3) := by decide +kernel
theorem dX7_cell_66 : decode cX7_cell 66 = .ok (.iload_n 2, 1) := by decide +kernel
theorem dX7_cell_67 : decode cX7_cell 67 = .ok (.imul, 1) := by decide +kernel
theorem dX7_cell_68 : decode cX7_cell 68 = .ok (.iload_n 1, 1) := by decide +kernel
theorem dX7_cell_69 : decode cX7_cell 69 = .ok (.iadd, 1) := by decide +kernel
theorem dX7_cell_70 : decode cX7_cell 70 = .ok (.iaload, 1) := by decide +kernel
theorem dX7_cell_71 : decode cX7_cell 71 = .ok (.ireturn, 1) := by decide +kernel
theorem dX7_cell_72 : decode cX7_cell 72 = .ok (.aload_n 0, 1) := by decide +kernel
theorem dX7_cell_73 : decode cX7_cell 73 = .ok (.iload_n 1, 1) := by decide +kernel
theorem dX7_cell_74 : decode cX7_cell 74 = .ok (.iload_n 2, 1) := by decide +kernel
theorem dX7_cell_75 : decode cX7_cell 75 = .ok (.invokevirtual 269, 3) := by decide +kernel
theorem dX7_cell_78 : decode cX7_cell 78 = .ok (.ireturn, 1) := by decide +kernel
theorem dX7_cell_79 : decode cX7_cell 79 = .ok (.aload_n 0, 1) := by decide +kernel
theorem dX7_cell_80 : decode cX7_cell 80 = .ok (.aload_n 0, 1) := by decide +kernel
theorem dX7_cell_81 : decode cX7_cell 81 = .ok (.iload_n 1, 1) := by decide +kernel
theorem dX7_cell_82 : decode cX7_cell 82 = .ok (.iload_n 2, 1) := by decide +kernel
theorem dX7_cell_83 : decode cX7_cell 83 = .ok (.invokevirtual 269, 3) := by decide +kernel
theorem dX7_cell_86 : decode cX7_cell 86 = .ok (.iload_n 1, 1) := by decide +kernel
theorem dX7_cell_87 : decode cX7_cell 87 = .ok (.iload_n 2, 1) := by decide +kernel
theorem dX7_cell_88 : decode cX7_cell 88 = .ok (.invokevirtual 272, 3) := by decide +kernel
theorem dX7_cell_91 : decode cX7_cell 91 = .ok (.ireturn, 1) := by decide +kernel
theorem dX7_cell_92 : decode cX7_cell 92 = .ok (.ldc 108, 2) := by decide +kernel
theorem dX7_cell_94 : decode cX7_cell 94 = .ok (.ireturn, 1) := by decide +kernel
set_option maxRecDepth 20000 in
theorem ggX7_countCells_X7_cells : GoodIn wsX7_countCells wsX7_cells := goodIn_r _ [6, 1, 7, 59, 60, 61, 62, 63, 64, 65, 66, 67, 68, 69, 70, 71, 72, 73, 74, 75, 76, 77, 78, 79, 80, 81, 82, 83, 84, 85, 86, 87, 88, 89, 90, 91, 92, 93, 94, 95, 96, 97, 98, 99, 100, 101, 102, 103, 104, 105, 106] (by decide +kernel) (by decide +kernel)
set_option maxRecDepth 20000 in
theorem gX7_countCells_X7_cells : GoodIn wsX7_countCells (wsV RX7 232 RX7 yX7_cells wsX7_cells) := goodIn_app (goodIn_of _ (by decide +kernel)) ggX7_countCells_X7_cells
set_option maxRecDepth 20000 in
theorem ggX7_countCells_X7_seers : GoodIn wsX7_countCells wsX7_seers := goodIn_r _ [11, 12, 13, 14, 15, 5, 16, 17, 18, 19, 20, 21, 22, 23, 24, 25, 26, 27, 28, 29, 30, 31, 32, 33, 34, 35, 36, 37, 38, 39, 40, 41, 42, 43, 44, 45, 46, 1, 59, 60, 61, 62, 63, 64, 65, 66, 67, 68, 69, 70, 71, 72, 73, 74, 75, 76, 77, 78, 79, 80, 81, 82, 83, 84, 85, 86, 87, 88, 89, 90, 91, 92, 93, 94, 95, 96, 97, 98, 99, 100, 101, 102, 103, 104, 105, 106] (by decide +kernel) (by decide +kernel)
set_option maxRecDepth 20000 in
theorem gX7_countCells_X7_seers : GoodIn wsX7_countCells (wsV RX7 269 RX7 yX7_seers wsX7_seers) := goodIn_app (goodIn_of _ (by decide +kernel)) ggX7_countCells_X7_seers
set_option maxRecDepth 20000 in
theorem ggX7_countCells_X7_ownersOf : GoodIn wsX7_countCells wsX7_ownersOf := goodIn_r _ [50, 51, 12, 52, 53, 5, 54, 55, 56, 57, 58, 31, 35, 36, 37, 38, 39, 40, 41, 59, 60, 61, 62, 63, 64, 65, 66, 67, 68, 69, 70, 71, 72, 73, 74, 75, 76, 77, 78, 79, 80, 81, 82, 83, 84, 85, 86, 87, 88, 89, 90, 91, 92, 93, 94, 95, 96, 97, 98, 99, 100, 101, 102, 103, 104, 105, 106] (by decide +kernel) (by decide +kernel)
set_option maxRecDepth 20000 in
theorem gX7_countCells_X7_ownersOf : GoodIn wsX7_countCells (wsV RX7 272 RX7 yX7_ownersOf wsX7_ownersOf) := goodIn_app (goodIn_of _ (by decide +kernel)) ggX7_countCells_X7_ownersOf
set_option maxRecDepth 20000 in
theorem ggX7_countCells_X7_has : GoodIn wsX7_countCells wsX7_has := goodIn_r _ [54] (by decide +kernel) (by decide +kernel)
set_option maxRecDepth 20000 in
theorem gX7_countCells_X7_has : GoodIn wsX7_countCells (va_wsS RX7 261 yX7_has wsX7_has) := goodIn_app (goodIn_of _ (by decide +kernel)) ggX7_countCells_X7_has
theorem dX7_countCells_0 : decode cX7_countCells 0 = .ok (.iconst 0, 1) := by decide +kernel
theorem dX7_countCells_1 : decode cX7_countCells 1 = .ok (.istore_n 3, 1) := by decide +kernel
theorem dX7_countCells_2 : decode cX7_countCells 2 = .ok (.iconst 0, 1) := by decide +kernel
theorem dX7_countCells_3 : decode cX7_countCells 3 = .ok (.istore 4, 2) := by decide +kernel
theorem dX7_countCells_5 : decode cX7_countCells 5 = .ok (.iload 4, 2) := by decide +kernel
theorem dX7_countCells_7 : decode cX7_countCells 7 = .ok (.aload_n 0, 1) := by decide +kernel
theorem dX7_countCells_8 : decode cX7_countCells 8 = .ok (.invokevirtual 232, 3) := by decide +kernel
theorem dX7_countCells_11 : decode cX7_countCells 11 = .ok (.if_icmp .ge 77, 3) := by decide +kernel
theorem dX7_countCells_14 : decode cX7_countCells 14 = .ok (.aload_n 0, 1) := by decide +kernel
theorem dX7_countCells_15 : decode cX7_countCells 15 = .ok (.iload 4, 2) := by decide +kernel
theorem dX7_countCells_17 : decode cX7_countCells 17 = .ok (.aload_n 0, 1) := by decide +kernel
theorem dX7_countCells_18 : decode cX7_countCells 18 = .ok (.getfield 90, 3) := by decide +kernel
theorem dX7_countCells_21 : decode cX7_countCells 21 = .ok (.irem, 1) := by decide +kernel
theorem dX7_countCells_22 : decode cX7_countCells 22 = .ok (.iload 4, 2) := by decide +kernel
theorem dX7_countCells_24 : decode cX7_countCells 24 = .ok (.aload_n 0, 1) := by decide +kernel
theorem dX7_countCells_25 : decode cX7_countCells 25 = .ok (.getfield 90, 3) := by decide +kernel
theorem dX7_countCells_28 : decode cX7_countCells 28 = .ok (.idiv, 1) := by decide +kernel
theorem dX7_countCells_29 : decode cX7_countCells 29 = .ok (.invokevirtual 269, 3) := by decide +kernel
theorem dX7_countCells_32 : decode cX7_countCells 32 = .ok (.istore 5, 2) := by decide +kernel
theorem dX7_countCells_34 : decode cX7_countCells 34 = .ok (.iload_n 2, 1) := by decide +kernel
theorem dX7_countCells_35 : decode cX7_countCells 35 = .ok (.ifCond .eq 26, 3) := by decide +kernel
theorem dX7_countCells_38 : decode cX7_countCells 38 = .ok (.aload_n 0, 1) := by decide +kernel
theorem dX7_countCells_39 : decode cX7_countCells 39 = .ok (.iload 5, 2) := by decide +kernel
theorem dX7_countCells_41 : decode cX7_countCells 41 = .ok (.iload 4, 2) := by decide +kernel
theorem dX7_countCells_43 : decode cX7_countCells 43 = .ok (.aload_n 0, 1) := by decide +kernel
theorem dX7_countCells_44 : decode cX7_countCells 44 = .ok (.getfield 90, 3) := by decide +kernel
theorem dX7_countCells_47 : decode cX7_countCells 47 = .ok (.irem, 1) := by decide +kernel
theorem dX7_countCells_48 : decode cX7_countCells 48 = .ok (.iload 4, 2) := by decide +kernel
theorem dX7_countCells_50 : decode cX7_countCells 50 = .ok (.aload_n 0, 1) := by decide +kernel
theorem dX7_countCells_51 : decode cX7_countCells 51 = .ok (.getfield 90, 3) := by decide +kernel
theorem dX7_countCells_54 : decode cX7_countCells 54 = .ok (.idiv, 1) := by decide +kernel
theorem dX7_countCells_55 : decode cX7_countCells 55 = .ok (.invokevirtual 272, 3) := by decide +kernel
theorem dX7_countCells_58 : decode cX7_countCells 58 = .ok (.goto 5, 3) := by decide +kernel
theorem dX7_countCells_61 : decode cX7_countCells 61 = .ok (.iload 5, 2) := by decide +kernel
theorem dX7_countCells_63 : decode cX7_countCells 63 = .ok (.istore 5, 2) := by decide +kernel
theorem dX7_countCells_65 : decode cX7_countCells 65 = .ok (.iload_n 3, 1) := by decide +kernel
theorem dX7_countCells_66 : decode cX7_countCells 66 = .ok (.iload 5, 2) := by decide +kernel
theorem dX7_countCells_68 : decode cX7_countCells 68 = .ok (.iload_n 1, 1) := by decide +kernel
theorem dX7_countCells_69 : decode cX7_countCells 69 = .ok (.invokestatic 261, 3) := by decide +kernel
theorem dX7_countCells_72 : decode cX7_countCells 72 = .ok (.ifCond .eq 7, 3) := by decide +kernel
theorem dX7_countCells_75 : decode cX7_countCells 75 = .ok (.iconst 1, 1) := by decide +kernel
theorem dX7_countCells_76 : decode cX7_countCells 76 = .ok (.goto 4, 3) := by decide +kernel
theorem dX7_countCells_79 : decode cX7_countCells 79 = .ok (.iconst 0, 1) := by decide +kernel
theorem dX7_countCells_80 : decode cX7_countCells 80 = .ok (.iadd, 1) := by decide +kernel
theorem dX7_countCells_81 : decode cX7_countCells 81 = .ok (.istore_n 3, 1) := by decide +kernel
theorem dX7_countCells_82 : decode cX7_countCells 82 = .ok (.iinc 4 1, 3) := by decide +kernel
theorem dX7_countCells_85 : decode cX7_countCells 85 = .ok (.goto (-80), 3) := by decide +kernel
theorem dX7_countCells_88 : decode cX7_countCells 88 = .ok (.iload_n 3, 1) := by decide +kernel
theorem dX7_countCells_89 : decode cX7_countCells 89 = .ok (.ireturn, 1) := by decide +kernel
set_option maxRecDepth 20000 in
theorem ggX7_man_X7_isMan : GoodIn wsX7_man wsX7_isMan := goodIn_r _ [11, 12, 13, 14, 10, 15, 70, 71, 72, 73, 74, 75, 76, 77, 78, 79, 80, 81, 82, 83, 84, 85, 86, 87, 88, 89, 90, 91, 92, 93, 94, 95, 96, 97, 98, 99, 100, 101, 102, 103, 104, 105, 106, 107, 108, 109, 110, 111, 112, 113, 114, 115, 116, 117] (by decide +kernel) (by decide +kernel)
set_option maxRecDepth 20000 in
theorem gX7_man_X7_isMan : GoodIn wsX7_man (wsV RX7 285 RX7 yX7_isMan wsX7_isMan) := goodIn_app (goodIn_of _ (by decide +kernel)) ggX7_man_X7_isMan
set_option maxRecDepth 20000 in
theorem ggX7_man_X7_eyeOf : GoodIn wsX7_man wsX7_eyeOf := goodIn_r _ [19, 3, 4, 20, 70, 71, 72, 73, 74, 75, 76, 77, 78, 79, 80, 81, 82, 83, 84, 85, 86, 87, 88, 89, 90, 91, 92, 93, 94, 95, 96, 97, 98, 99, 100, 101, 102, 103, 104, 105, 106, 107, 108, 109, 110, 111, 112, 113, 114, 115, 116, 117] (by decide +kernel) (by decide +kernel)
set_option maxRecDepth 20000 in
theorem gX7_man_X7_eyeOf : GoodIn wsX7_man (wsV RX7 251 RX7 yX7_eyeOf wsX7_eyeOf) := goodIn_app (goodIn_of _ (by decide +kernel)) ggX7_man_X7_eyeOf
set_option maxRecDepth 20000 in
theorem ggX7_man_X7_countCells : GoodIn wsX7_man wsX7_countCells := goodIn_r _ [24, 25, 26, 27, 28, 10, 29, 30, 31, 32, 33, 34, 12, 35, 36, 37, 38, 39, 40, 41, 13, 14, 15, 42, 43, 44, 45, 46, 47, 48, 49, 2, 50, 51, 52, 16, 17, 18, 19, 3, 4, 20, 53, 54, 55, 56, 57, 58, 59, 60, 61, 62, 63, 64, 65, 66, 67, 68, 69, 70, 71, 72, 73, 74, 75, 76, 77, 78, 79, 80, 81, 82, 83, 84, 85, 86, 87, 88, 89, 90, 91, 92, 93, 94, 95, 96, 97, 98, 99, 100, 101, 102, 103, 104, 105, 106, 107, 108, 109, 110, 111, 112, 113, 114, 115, 116, 117] (by decide +kernel) (by decide +kernel)
set_option maxRecDepth 20000 in
theorem gX7_man_X7_countCells : GoodIn wsX7_man (wsV RX7 289 RX7 yX7_countCells wsX7_countCells) := goodIn_app (goodIn_of _ (by decide +kernel)) ggX7_man_X7_countCells
theorem dX7_man_0 : decode cX7_man 0 = .ok (.aload_n 0, 1) := by decide +kernel
theorem dX7_man_1 : decode cX7_man 1 = .ok (.iload_n 1, 1) := by decide +kernel
theorem dX7_man_2 : decode cX7_man 2 = .ok (.invokevirtual 285, 3) := by decide +kernel
theorem dX7_man_5 : decode cX7_man 5 = .ok (.ifCond .ne 7, 3) := by decide +kernel
theorem dX7_man_8 : decode cX7_man 8 = .ok (.ldc_w 284, 3) := by decide +kernel
theorem dX7_man_11 : decode cX7_man 11 = .ok (.ireturn, 1) := by decide +kernel
theorem dX7_man_12 : decode cX7_man 12 = .ok (.iload_n 2, 1) := by decide +kernel
theorem dX7_man_13 : decode cX7_man 13 = .ok (.tableswitch 91 0 6 #[43, 50, 57, 64, 70, 77, 84], 43) := by decide +kernel
theorem dX7_man_56 : decode cX7_man 56 = .ok (.aload_n 0, 1) := by decide +kernel
theorem dX7_man_57 : decode cX7_man 57 = .ok (.getfield 7, 3) := by decide +kernel
theorem dX7_man_60 : decode cX7_man 60 = .ok (.iload_n 1, 1) := by decide +kernel
theorem dX7_man_61 : decode cX7_man 61 = .ok (.iaload, 1) := by decide +kernel
theorem dX7_man_62 : decode cX7_man 62 = .ok (.ireturn, 1) := by decide +kernel
theorem dX7_man_63 : decode cX7_man 63 = .ok (.aload_n 0, 1) := by decide +kernel
theorem dX7_man_64 : decode cX7_man 64 = .ok (.getfield 13, 3) := by decide +kernel
theorem dX7_man_67 : decode cX7_man 67 = .ok (.iload_n 1, 1) := by decide +kernel
theorem dX7_man_68 : decode cX7_man 68 = .ok (.iaload, 1) := by decide +kernel
theorem dX7_man_69 : decode cX7_man 69 = .ok (.ireturn, 1) := by decide +kernel
theorem dX7_man_70 : decode cX7_man 70 = .ok (.aload_n 0, 1) := by decide +kernel
theorem dX7_man_71 : decode cX7_man 71 = .ok (.getfield 35, 3) := by decide +kernel
theorem dX7_man_74 : decode cX7_man 74 = .ok (.iload_n 1, 1) := by decide +kernel
theorem dX7_man_75 : decode cX7_man 75 = .ok (.iaload, 1) := by decide +kernel
theorem dX7_man_76 : decode cX7_man 76 = .ok (.ireturn, 1) := by decide +kernel
theorem dX7_man_77 : decode cX7_man 77 = .ok (.aload_n 0, 1) := by decide +kernel
theorem dX7_man_78 : decode cX7_man 78 = .ok (.iload_n 1, 1) := by decide +kernel
theorem dX7_man_79 : decode cX7_man 79 = .ok (.invokevirtual 251, 3) := by decide +kernel
theorem dX7_man_82 : decode cX7_man 82 = .ok (.ireturn, 1) := by decide +kernel
theorem dX7_man_83 : decode cX7_man 83 = .ok (.aload_n 0, 1) := by decide +kernel
theorem dX7_man_84 : decode cX7_man 84 = .ok (.getfield 38, 3) := by decide +kernel
theorem dX7_man_87 : decode cX7_man 87 = .ok (.iload_n 1, 1) := by decide +kernel
theorem dX7_man_88 : decode cX7_man 88 = .ok (.iaload, 1) := by decide +kernel
theorem dX7_man_89 : decode cX7_man 89 = .ok (.ireturn, 1) := by decide +kernel
theorem dX7_man_90 : decode cX7_man 90 = .ok (.aload_n 0, 1) := by decide +kernel
theorem dX7_man_91 : decode cX7_man 91 = .ok (.iload_n 1, 1) := by decide +kernel
theorem dX7_man_92 : decode cX7_man 92 = .ok (.iconst 0, 1) := by decide +kernel
theorem dX7_man_93 : decode cX7_man 93 = .ok (.invokevirtual 289, 3) := by decide +kernel
theorem dX7_man_96 : decode cX7_man 96 = .ok (.ireturn, 1) := by decide +kernel
theorem dX7_man_97 : decode cX7_man 97 = .ok (.aload_n 0, 1) := by decide +kernel
theorem dX7_man_98 : decode cX7_man 98 = .ok (.iload_n 1, 1) := by decide +kernel
theorem dX7_man_99 : decode cX7_man 99 = .ok (.iconst 1, 1) := by decide +kernel
theorem dX7_man_100 : decode cX7_man 100 = .ok (.invokevirtual 289, 3) := by decide +kernel
theorem dX7_man_103 : decode cX7_man 103 = .ok (.ireturn, 1) := by decide +kernel
theorem dX7_man_104 : decode cX7_man 104 = .ok (.ldc 108, 2) := by decide +kernel
theorem dX7_man_106 : decode cX7_man 106 = .ok (.ireturn, 1) := by decide +kernel
set_option maxRecDepth 20000 in
theorem ggX7_sees_X7_isMan : GoodIn wsX7_sees wsX7_isMan := goodIn_r _ [6, 7, 8, 9, 5, 10, 48, 49, 50, 51, 52, 53, 54, 55, 56, 57, 58, 59, 60, 61, 62, 63, 64, 65, 66, 67, 68, 69, 70, 71, 72, 73, 74, 75, 76, 77, 78, 79, 80, 81, 82, 83, 84, 85, 86, 87, 88, 89, 90, 91, 92, 93, 94, 95] (by decide +kernel) (by decide +kernel)
set_option maxRecDepth 20000 in
theorem gX7_sees_X7_isMan : GoodIn wsX7_sees (wsV RX7 285 RX7 yX7_isMan wsX7_isMan) := goodIn_app (goodIn_of _ (by decide +kernel)) ggX7_sees_X7_isMan
set_option maxRecDepth 20000 in
theorem ggX7_sees_X7_isCell : GoodIn wsX7_sees wsX7_isCell := goodIn_r _ [14, 15, 16, 8, 9, 5, 10, 48, 49, 50, 51, 52, 53, 54, 55, 56, 57, 58, 59, 60, 61, 62, 63, 64, 65, 66, 67, 68, 69, 70, 71, 72, 73, 74, 75, 76, 77, 78, 79, 80, 81, 82, 83, 84, 85, 86, 87, 88, 89, 90, 91, 92, 93, 94, 95] (by decide +kernel) (by decide +kernel)
set_option maxRecDepth 20000 in
theorem gX7_sees_X7_isCell : GoodIn wsX7_sees (wsV RX7 281 RX7 yX7_isCell wsX7_isCell) := goodIn_app (goodIn_of _ (by decide +kernel)) ggX7_sees_X7_isCell
set_option maxRecDepth 20000 in
theorem ggX7_sees_X7_farNow : GoodIn wsX7_sees wsX7_farNow := goodIn_r _ [20, 21, 22, 23, 8, 9, 5, 10, 48, 49, 50, 51, 52, 53, 54, 55, 56, 57, 58, 59, 60, 61, 62, 63, 64, 65, 66, 67, 68, 69, 70, 71, 72, 73, 74, 75, 76, 77, 78, 79, 80, 81, 82, 83, 84, 85, 86, 87, 88, 89, 90, 91, 92, 93, 94, 95] (by decide +kernel) (by decide +kernel)
set_option maxRecDepth 20000 in
theorem gX7_sees_X7_farNow : GoodIn wsX7_sees (wsV RX7 238 RX7 yX7_farNow wsX7_farNow) := goodIn_app (goodIn_of _ (by decide +kernel)) ggX7_sees_X7_farNow
set_option maxRecDepth 20000 in
theorem ggX7_sees_X7_canSee : GoodIn wsX7_sees wsX7_canSee := goodIn_r _ [27, 28, 29, 30, 5, 31, 32, 33, 34, 35, 36, 37, 38, 39, 40, 41, 42, 43, 44, 45, 46, 47, 15, 48, 49, 50, 51, 52, 53, 54, 55, 56, 57, 58, 59, 60, 61, 62, 63, 64, 65, 66, 67, 68, 69, 70, 71, 72, 73, 74, 75, 76, 77, 78, 79, 80, 81, 82, 83, 84, 85, 86, 87, 88, 89, 90, 91, 92, 93, 94, 95] (by decide +kernel) (by decide +kernel)
set_option maxRecDepth 20000 in
theorem gX7_sees_X7_canSee : GoodIn wsX7_sees (wsV RX7 258 RX7 yX7_canSee wsX7_canSee) := goodIn_app (goodIn_of _ (by decide +kernel)) ggX7_sees_X7_canSee
theorem dX7_sees_0 : decode cX7_sees 0 = .ok (.aload_n 0, 1) := by decide +kernel
theorem dX7_sees_1 : decode cX7_sees 1 = .ok (.iload_n 1, 1) := by decide +kernel
theorem dX7_sees_2 : decode cX7_sees 2 = .ok (.invokevirtual 285, 3) := by decide +kernel
theorem dX7_sees_5 : decode cX7_sees 5 = .ok (.ifCond .eq 12, 3) := by decide +kernel
theorem dX7_sees_8 : decode cX7_sees 8 = .ok (.aload_n 0, 1) := by decide +kernel
theorem dX7_sees_9 : decode cX7_sees 9 = .ok (.iload_n 2, 1) := by decide +kernel
theorem dX7_sees_10 : decode cX7_sees 10 = .ok (.iload_n 3, 1) := by decide +kernel
theorem dX7_sees_11 : decode cX7_sees 11 = .ok (.invokevirtual 281, 3) := by decide +kernel
theorem dX7_sees_14 : decode cX7_sees 14 = .ok (.ifCond .ne 7, 3) := by decide +kernel
theorem dX7_sees_17 : decode cX7_sees 17 = .ok (.ldc_w 284, 3) := by decide +kernel
theorem dX7_sees_20 : decode cX7_sees 20 = .ok (.ireturn, 1) := by decide +kernel
theorem dX7_sees_21 : decode cX7_sees 21 = .ok (.aload_n 0, 1) := by decide +kernel
theorem dX7_sees_22 : decode cX7_sees 22 = .ok (.iload_n 1, 1) := by decide +kernel
theorem dX7_sees_23 : decode cX7_sees 23 = .ok (.iload_n 2, 1) := by decide +kernel
theorem dX7_sees_24 : decode cX7_sees 24 = .ok (.iload_n 3, 1) := by decide +kernel
theorem dX7_sees_25 : decode cX7_sees 25 = .ok (.aload_n 0, 1) := by decide +kernel
theorem dX7_sees_26 : decode cX7_sees 26 = .ok (.invokevirtual 238, 3) := by decide +kernel
theorem dX7_sees_29 : decode cX7_sees 29 = .ok (.invokevirtual 258, 3) := by decide +kernel
theorem dX7_sees_32 : decode cX7_sees 32 = .ok (.ifCond .eq 7, 3) := by decide +kernel
theorem dX7_sees_35 : decode cX7_sees 35 = .ok (.iconst 1, 1) := by decide +kernel
theorem dX7_sees_36 : decode cX7_sees 36 = .ok (.goto 4, 3) := by decide +kernel
theorem dX7_sees_39 : decode cX7_sees 39 = .ok (.iconst 0, 1) := by decide +kernel
theorem dX7_sees_40 : decode cX7_sees 40 = .ok (.ireturn, 1) := by decide +kernel
set_option maxRecDepth 20000 in
theorem ggX7_blocker_X7_isMan : GoodIn wsX7_blocker wsX7_isMan := goodIn_r _ [6, 7, 8, 9, 5, 10, 30, 31, 32, 33, 34, 35, 36, 37, 38, 39, 40, 41, 42, 43, 44, 45, 46, 47, 48, 49, 50, 51, 52, 53, 54, 55, 56, 57, 58, 59, 60, 61, 62, 63, 64, 65, 66, 67, 68, 69, 70, 71, 72, 73, 74, 75, 76, 77] (by decide +kernel) (by decide +kernel)
set_option maxRecDepth 20000 in
theorem gX7_blocker_X7_isMan : GoodIn wsX7_blocker (wsV RX7 285 RX7 yX7_isMan wsX7_isMan) := goodIn_app (goodIn_of _ (by decide +kernel)) ggX7_blocker_X7_isMan
set_option maxRecDepth 20000 in
theorem ggX7_blocker_X7_isCell : GoodIn wsX7_blocker wsX7_isCell := goodIn_r _ [14, 15, 16, 8, 9, 5, 10, 30, 31, 32, 33, 34, 35, 36, 37, 38, 39, 40, 41, 42, 43, 44, 45, 46, 47, 48, 49, 50, 51, 52, 53, 54, 55, 56, 57, 58, 59, 60, 61, 62, 63, 64, 65, 66, 67, 68, 69, 70, 71, 72, 73, 74, 75, 76, 77] (by decide +kernel) (by decide +kernel)
set_option maxRecDepth 20000 in
theorem gX7_blocker_X7_isCell : GoodIn wsX7_blocker (wsV RX7 281 RX7 yX7_isCell wsX7_isCell) := goodIn_app (goodIn_of _ (by decide +kernel)) ggX7_blocker_X7_isCell
set_option maxRecDepth 20000 in
theorem ggX7_blocker_X7_eyeOf : GoodIn wsX7_blocker wsX7_eyeOf := goodIn_r _ [20, 21, 22, 23, 30, 31, 32, 33, 34, 35, 36, 37, 38, 39, 40, 41, 42, 43, 44, 45, 46, 47, 48, 49, 50, 51, 52, 53, 54, 55, 56, 57, 58, 59, 60, 61, 62, 63, 64, 65, 66, 67, 68, 69, 70, 71, 72, 73, 74, 75, 76, 77] (by decide +kernel) (by decide +kernel)
set_option maxRecDepth 20000 in
theorem gX7_blocker_X7_eyeOf : GoodIn wsX7_blocker (wsV RX7 251 RX7 yX7_eyeOf wsX7_eyeOf) := goodIn_app (goodIn_of _ (by decide +kernel)) ggX7_blocker_X7_eyeOf
set_option maxRecDepth 20000 in
theorem ggX7_blocker_X7_blockerOf : GoodIn wsX7_blocker wsX7_blockerOf := goodIn_r _ [27, 28, 29, 15, 30, 31, 32, 33, 34, 35, 36, 37, 38, 39, 40, 41, 42, 43, 44, 45, 46, 47, 48, 49, 50, 51, 52, 53, 54, 55, 56, 57, 58, 59, 60, 61, 62, 63, 64, 65, 66, 67, 68, 69, 70, 71, 72, 73, 74, 75, 76, 77] (by decide +kernel) (by decide +kernel)
set_option maxRecDepth 20000 in
theorem gX7_blocker_X7_blockerOf : GoodIn wsX7_blocker (wsV RX7 254 RX7 yX7_blockerOf wsX7_blockerOf) := goodIn_app (goodIn_of _ (by decide +kernel)) ggX7_blocker_X7_blockerOf
theorem dX7_blocker_0 : decode cX7_blocker 0 = .ok (.aload_n 0, 1) := by decide +kernel
theorem dX7_blocker_1 : decode cX7_blocker 1 = .ok (.iload_n 1, 1) := by decide +kernel
theorem dX7_blocker_2 : decode cX7_blocker 2 = .ok (.invokevirtual 285, 3) := by decide +kernel
theorem dX7_blocker_5 : decode cX7_blocker 5 = .ok (.ifCond .eq 27, 3) := by decide +kernel
theorem dX7_blocker_8 : decode cX7_blocker 8 = .ok (.aload_n 0, 1) := by decide +kernel
theorem dX7_blocker_9 : decode cX7_blocker 9 = .ok (.iload_n 2, 1) := by decide +kernel
theorem dX7_blocker_10 : decode cX7_blocker 10 = .ok (.iload_n 3, 1) := by decide +kernel
