theorem dX7_blocker_11 : decode cX7_blocker 11 = .ok (.invokevirtual 281, 3) := by decide +kernel
theorem dX7_blocker_14 : decode cX7_blocker 14 = .ok (.ifCond .eq 18, 3) := by decide +kernel
theorem dX7_blocker_17 : decode cX7_blocker 17 = .ok (.aload_n 0, 1) := by decide +kernel
theorem dX7_blocker_18 : decode cX7_blocker 18 = .ok (.iload_n 1, 1) := by decide +kernel
theorem dX7_blocker_19 : decode cX7_blocker 19 = .ok (.aload_n 0, 1) := by decide +kernel
theorem dX7_blocker_20 : decode cX7_blocker 20 = .ok (.iload_n 1, 1) := by decide +kernel
theorem dX7_blocker_21 : decode cX7_blocker 21 = .ok (.invokevirtual 251, 3) := by decide +kernel
theorem dX7_blocker_24 : decode cX7_blocker 24 = .ok (.iload_n 2, 1) := by decide +kernel
theorem dX7_blocker_25 : decode cX7_blocker 25 = .ok (.iload_n 3, 1) := by decide +kernel
theorem dX7_blocker_26 : decode cX7_blocker 26 = .ok (.invokevirtual 254, 3) := by decide +kernel
theorem dX7_blocker_29 : decode cX7_blocker 29 = .ok (.goto 6, 3) := by decide +kernel
theorem dX7_blocker_32 : decode cX7_blocker 32 = .ok (.ldc_w 284, 3) := by decide +kernel
theorem dX7_blocker_35 : decode cX7_blocker 35 = .ok (.ireturn, 1) := by decide +kernel
set_option maxRecDepth 20000 in
theorem ggX7_share_X7_isMan : GoodIn wsX7_share wsX7_isMan := goodIn_r _ [6, 7, 8, 9, 5, 10, 76, 77, 78, 79, 80, 81, 82, 83, 84, 85, 86, 87, 88, 89, 90, 91, 92, 93, 94, 95, 96, 97, 98, 99, 100, 101, 102, 103, 104, 105, 106, 107, 108, 109, 110, 111, 112, 113, 114, 115, 116, 117, 118, 119, 120, 121, 122, 123] (by decide +kernel) (by decide +kernel)
set_option maxRecDepth 20000 in
theorem gX7_share_X7_isMan : GoodIn wsX7_share (wsV RX7 285 RX7 yX7_isMan wsX7_isMan) := goodIn_app (goodIn_of _ (by decide +kernel)) ggX7_share_X7_isMan
set_option maxRecDepth 20000 in
theorem ggX7_share_X7_shareOf : GoodIn wsX7_share wsX7_shareOf := goodIn_r _ [14, 15, 16, 17, 18, 5, 19, 20, 21, 22, 23, 24, 25, 26, 27, 28, 29, 7, 30, 31, 32, 33, 34, 35, 36, 8, 9, 10, 37, 38, 39, 40, 41, 42, 43, 44, 45, 46, 47, 48, 49, 50, 51, 52, 53, 54, 55, 56, 57, 58, 59, 60, 61, 62, 63, 64, 65, 66, 67, 68, 69, 70, 71, 72, 73, 74, 75, 76, 77, 78, 79, 80, 81, 82, 83, 84, 85, 86, 87, 88, 89, 90, 91, 92, 93, 94, 95, 96, 97, 98, 99, 100, 101, 102, 103, 104, 105, 106, 107, 108, 109, 110, 111, 112, 113, 114, 115, 116, 117, 118, 119, 120, 121, 122, 123] (by decide +kernel) (by decide +kernel)
set_option maxRecDepth 20000 in
theorem gX7_share_X7_shareOf : GoodIn wsX7_share (wsV RX7 293 RX7 yX7_shareOf wsX7_shareOf) := goodIn_app (goodIn_of _ (by decide +kernel)) ggX7_share_X7_shareOf
theorem dX7_share_0 : decode cX7_share 0 = .ok (.aload_n 0, 1) := by decide +kernel
theorem dX7_share_1 : decode cX7_share 1 = .ok (.iload_n 1, 1) := by decide +kernel
theorem dX7_share_2 : decode cX7_share 2 = .ok (.invokevirtual 285, 3) := by decide +kernel
theorem dX7_share_5 : decode cX7_share 5 = .ok (.ifCond .eq 11, 3) := by decide +kernel
theorem dX7_share_8 : decode cX7_share 8 = .ok (.aload_n 0, 1) := by decide +kernel
theorem dX7_share_9 : decode cX7_share 9 = .ok (.iload_n 1, 1) := by decide +kernel
theorem dX7_share_10 : decode cX7_share 10 = .ok (.invokevirtual 293, 3) := by decide +kernel
theorem dX7_share_13 : decode cX7_share 13 = .ok (.goto 6, 3) := by decide +kernel
theorem dX7_share_16 : decode cX7_share 16 = .ok (.ldc_w 284, 3) := by decide +kernel
theorem dX7_share_19 : decode cX7_share 19 = .ok (.ireturn, 1) := by decide +kernel
set_option maxRecDepth 20000 in
theorem ggX7_free_X7_cells : GoodIn wsX7_free wsX7_cells := goodIn_r _ [6, 1, 7, 47, 48, 49, 50, 51, 52, 53, 54, 55, 56, 57, 58, 59, 60, 61, 62, 63, 64, 65, 66, 67, 68, 69, 70, 71, 72, 73, 74, 75, 76, 77, 78, 79, 80, 81, 82, 83, 84, 85, 86, 87, 88, 89, 90, 91, 92, 93, 94] (by decide +kernel) (by decide +kernel)
set_option maxRecDepth 20000 in
theorem gX7_free_X7_cells : GoodIn wsX7_free (wsV RX7 232 RX7 yX7_cells wsX7_cells) := goodIn_app (goodIn_of _ (by decide +kernel)) ggX7_free_X7_cells
set_option maxRecDepth 20000 in
theorem ggX7_free_X7_seers : GoodIn wsX7_free wsX7_seers := goodIn_r _ [11, 12, 13, 14, 15, 5, 16, 17, 18, 19, 20, 21, 22, 23, 24, 25, 26, 27, 28, 29, 30, 31, 32, 33, 34, 35, 36, 37, 38, 39, 40, 41, 42, 43, 44, 45, 46, 1, 47, 48, 49, 50, 51, 52, 53, 54, 55, 56, 57, 58, 59, 60, 61, 62, 63, 64, 65, 66, 67, 68, 69, 70, 71, 72, 73, 74, 75, 76, 77, 78, 79, 80, 81, 82, 83, 84, 85, 86, 87, 88, 89, 90, 91, 92, 93, 94] (by decide +kernel) (by decide +kernel)
set_option maxRecDepth 20000 in
theorem gX7_free_X7_seers : GoodIn wsX7_free (wsV RX7 269 RX7 yX7_seers wsX7_seers) := goodIn_app (goodIn_of _ (by decide +kernel)) ggX7_free_X7_seers
theorem dX7_free_0 : decode cX7_free 0 = .ok (.iconst 0, 1) := by decide +kernel
theorem dX7_free_1 : decode cX7_free 1 = .ok (.istore_n 2, 1) := by decide +kernel
theorem dX7_free_2 : decode cX7_free 2 = .ok (.iconst 0, 1) := by decide +kernel
theorem dX7_free_3 : decode cX7_free 3 = .ok (.istore_n 3, 1) := by decide +kernel
theorem dX7_free_4 : decode cX7_free 4 = .ok (.iload_n 3, 1) := by decide +kernel
theorem dX7_free_5 : decode cX7_free 5 = .ok (.aload_n 0, 1) := by decide +kernel
theorem dX7_free_6 : decode cX7_free 6 = .ok (.invokevirtual 232, 3) := by decide +kernel
theorem dX7_free_9 : decode cX7_free 9 = .ok (.if_icmp .ge 53, 3) := by decide +kernel
theorem dX7_free_12 : decode cX7_free 12 = .ok (.aload_n 0, 1) := by decide +kernel
theorem dX7_free_13 : decode cX7_free 13 = .ok (.iload_n 3, 1) := by decide +kernel
theorem dX7_free_14 : decode cX7_free 14 = .ok (.aload_n 0, 1) := by decide +kernel
theorem dX7_free_15 : decode cX7_free 15 = .ok (.getfield 90, 3) := by decide +kernel
theorem dX7_free_18 : decode cX7_free 18 = .ok (.irem, 1) := by decide +kernel
theorem dX7_free_19 : decode cX7_free 19 = .ok (.iload_n 3, 1) := by decide +kernel
theorem dX7_free_20 : decode cX7_free 20 = .ok (.aload_n 0, 1) := by decide +kernel
theorem dX7_free_21 : decode cX7_free 21 = .ok (.getfield 90, 3) := by decide +kernel
theorem dX7_free_24 : decode cX7_free 24 = .ok (.idiv, 1) := by decide +kernel
theorem dX7_free_25 : decode cX7_free 25 = .ok (.invokevirtual 269, 3) := by decide +kernel
theorem dX7_free_28 : decode cX7_free 28 = .ok (.ifCond .ne 28, 3) := by decide +kernel
theorem dX7_free_31 : decode cX7_free 31 = .ok (.iload_n 2, 1) := by decide +kernel
theorem dX7_free_32 : decode cX7_free 32 = .ok (.iload_n 1, 1) := by decide +kernel
theorem dX7_free_33 : decode cX7_free 33 = .ok (.if_icmp .ne 20, 3) := by decide +kernel
theorem dX7_free_36 : decode cX7_free 36 = .ok (.bipush 100, 2) := by decide +kernel
theorem dX7_free_38 : decode cX7_free 38 = .ok (.iload_n 3, 1) := by decide +kernel
theorem dX7_free_39 : decode cX7_free 39 = .ok (.aload_n 0, 1) := by decide +kernel
theorem dX7_free_40 : decode cX7_free 40 = .ok (.getfield 90, 3) := by decide +kernel
theorem dX7_free_43 : decode cX7_free 43 = .ok (.irem, 1) := by decide +kernel
theorem dX7_free_44 : decode cX7_free 44 = .ok (.imul, 1) := by decide +kernel
theorem dX7_free_45 : decode cX7_free 45 = .ok (.iload_n 3, 1) := by decide +kernel
theorem dX7_free_46 : decode cX7_free 46 = .ok (.aload_n 0, 1) := by decide +kernel
theorem dX7_free_47 : decode cX7_free 47 = .ok (.getfield 90, 3) := by decide +kernel
theorem dX7_free_50 : decode cX7_free 50 = .ok (.idiv, 1) := by decide +kernel
theorem dX7_free_51 : decode cX7_free 51 = .ok (.iadd, 1) := by decide +kernel
theorem dX7_free_52 : decode cX7_free 52 = .ok (.ireturn, 1) := by decide +kernel
theorem dX7_free_53 : decode cX7_free 53 = .ok (.iinc 2 1, 3) := by decide +kernel
theorem dX7_free_56 : decode cX7_free 56 = .ok (.iinc 3 1, 3) := by decide +kernel
theorem dX7_free_59 : decode cX7_free 59 = .ok (.goto (-55), 3) := by decide +kernel
theorem dX7_free_62 : decode cX7_free 62 = .ok (.iconst (-1), 1) := by decide +kernel
theorem dX7_free_63 : decode cX7_free 63 = .ok (.ireturn, 1) := by decide +kernel
set_option maxRecDepth 20000 in
theorem ggX7_law_X7_in : GoodIn wsX7_law wsX7_in := goodIn_r _ [7] (by decide +kernel) (by decide +kernel)
set_option maxRecDepth 20000 in
theorem gX7_law_X7_in : GoodIn wsX7_law (va_wsS RX7 93 yX7_in wsX7_in) := goodIn_app (goodIn_of _ (by decide +kernel)) ggX7_law_X7_in
theorem dX7_law_0 : decode cX7_law 0 = .ok (.iload_n 1, 1) := by decide +kernel
theorem dX7_law_1 : decode cX7_law 1 = .ok (.i2l, 1) := by decide +kernel
theorem dX7_law_2 : decode cX7_law 2 = .ok (.lconst 0, 1) := by decide +kernel
theorem dX7_law_3 : decode cX7_law 3 = .ok (.ldc2_w 296, 3) := by decide +kernel
theorem dX7_law_6 : decode cX7_law 6 = .ok (.invokestatic 93, 3) := by decide +kernel
theorem dX7_law_9 : decode cX7_law 9 = .ok (.ifCond .ne 6, 3) := by decide +kernel
theorem dX7_law_12 : decode cX7_law 12 = .ok (.ldc 108, 2) := by decide +kernel
theorem dX7_law_14 : decode cX7_law 14 = .ok (.ireturn, 1) := by decide +kernel
theorem dX7_law_15 : decode cX7_law 15 = .ok (.aload_n 0, 1) := by decide +kernel
theorem dX7_law_16 : decode cX7_law 16 = .ok (.getfield 235, 3) := by decide +kernel
theorem dX7_law_19 : decode cX7_law 19 = .ok (.istore_n 2, 1) := by decide +kernel
theorem dX7_law_20 : decode cX7_law 20 = .ok (.aload_n 0, 1) := by decide +kernel
theorem dX7_law_21 : decode cX7_law 21 = .ok (.iload_n 1, 1) := by decide +kernel
theorem dX7_law_22 : decode cX7_law 22 = .ok (.putfield 235, 3) := by decide +kernel
theorem dX7_law_25 : decode cX7_law 25 = .ok (.iload_n 2, 1) := by decide +kernel
theorem dX7_law_26 : decode cX7_law 26 = .ok (.ireturn, 1) := by decide +kernel
theorem dX7_buildNow_0 : decode cX7_buildNow 0 = .ok (.aload_n 0, 1) := by decide +kernel
theorem dX7_buildNow_1 : decode cX7_buildNow 1 = .ok (.getfield 35, 3) := by decide +kernel
theorem dX7_buildNow_4 : decode cX7_buildNow 4 = .ok (.iload_n 1, 1) := by decide +kernel
theorem dX7_buildNow_5 : decode cX7_buildNow 5 = .ok (.dup2, 1) := by decide +kernel
theorem dX7_buildNow_6 : decode cX7_buildNow 6 = .ok (.iaload, 1) := by decide +kernel
theorem dX7_buildNow_7 : decode cX7_buildNow 7 = .ok (.iconst 1, 1) := by decide +kernel
theorem dX7_buildNow_8 : decode cX7_buildNow 8 = .ok (.iadd, 1) := by decide +kernel
theorem dX7_buildNow_9 : decode cX7_buildNow 9 = .ok (.iastore, 1) := by decide +kernel
theorem dX7_buildNow_10 : decode cX7_buildNow 10 = .ok (.aload_n 0, 1) := by decide +kernel
theorem dX7_buildNow_11 : decode cX7_buildNow 11 = .ok (.getfield 38, 3) := by decide +kernel
theorem dX7_buildNow_14 : decode cX7_buildNow 14 = .ok (.iload_n 1, 1) := by decide +kernel
theorem dX7_buildNow_15 : decode cX7_buildNow 15 = .ok (.dup2, 1) := by decide +kernel
theorem dX7_buildNow_16 : decode cX7_buildNow 16 = .ok (.iaload, 1) := by decide +kernel
theorem dX7_buildNow_17 : decode cX7_buildNow 17 = .ok (.aload_n 0, 1) := by decide +kernel
theorem dX7_buildNow_18 : decode cX7_buildNow 18 = .ok (.getfield 32, 3) := by decide +kernel
theorem dX7_buildNow_21 : decode cX7_buildNow 21 = .ok (.isub, 1) := by decide +kernel
theorem dX7_buildNow_22 : decode cX7_buildNow 22 = .ok (.iastore, 1) := by decide +kernel
theorem dX7_buildNow_23 : decode cX7_buildNow 23 = .ok (.return_, 1) := by decide +kernel
set_option maxRecDepth 20000 in
theorem ggX7_build_X7_isMan : GoodIn wsX7_build wsX7_isMan := goodIn_r _ [8, 9, 10, 11, 7, 12, 19, 20, 21, 22, 23, 24, 25, 26, 27, 28, 29, 30, 31, 32, 33, 34, 35, 36, 37, 38, 39, 40, 41, 42, 43, 44, 45, 46, 47, 48, 49, 50, 51, 52, 53, 54, 55, 56, 57, 58, 59, 60, 61, 62, 63, 64, 65, 66] (by decide +kernel) (by decide +kernel)
set_option maxRecDepth 20000 in
theorem gX7_build_X7_isMan : GoodIn wsX7_build (wsV RX7 285 RX7 yX7_isMan wsX7_isMan) := goodIn_app (goodIn_of _ (by decide +kernel)) ggX7_build_X7_isMan
set_option maxRecDepth 20000 in
theorem ggX7_build_X7_buildNow : GoodIn wsX7_build wsX7_buildNow := goodIn_r _ [16, 2, 17, 18, 19, 20, 21, 22, 23, 24, 25, 26, 27, 28, 29, 30, 31, 32, 33, 34, 35, 36, 37, 38, 39, 40, 41, 42, 43, 44, 45, 46, 47, 48, 49, 50, 51, 52, 53, 54, 55, 56, 57, 58, 59, 60, 61, 62, 63, 64, 65, 66] (by decide +kernel) (by decide +kernel)
set_option maxRecDepth 20000 in
theorem gX7_build_X7_buildNow : GoodIn wsX7_build (wsV RX7 299 RX7 yX7_buildNow wsX7_buildNow) := goodIn_app (goodIn_of _ (by decide +kernel)) ggX7_build_X7_buildNow
theorem dX7_build_0 : decode cX7_build 0 = .ok (.aload_n 0, 1) := by decide +kernel
theorem dX7_build_1 : decode cX7_build 1 = .ok (.iload_n 1, 1) := by decide +kernel
theorem dX7_build_2 : decode cX7_build 2 = .ok (.invokevirtual 285, 3) := by decide +kernel
theorem dX7_build_5 : decode cX7_build 5 = .ok (.ifCond .ne 7, 3) := by decide +kernel
theorem dX7_build_8 : decode cX7_build 8 = .ok (.ldc_w 284, 3) := by decide +kernel
theorem dX7_build_11 : decode cX7_build 11 = .ok (.ireturn, 1) := by decide +kernel
theorem dX7_build_12 : decode cX7_build 12 = .ok (.aload_n 0, 1) := by decide +kernel
theorem dX7_build_13 : decode cX7_build 13 = .ok (.getfield 35, 3) := by decide +kernel
theorem dX7_build_16 : decode cX7_build 16 = .ok (.iload_n 1, 1) := by decide +kernel
theorem dX7_build_17 : decode cX7_build 17 = .ok (.iaload, 1) := by decide +kernel
theorem dX7_build_18 : decode cX7_build 18 = .ok (.bipush 9, 2) := by decide +kernel
theorem dX7_build_20 : decode cX7_build 20 = .ok (.if_icmp .ne 7, 3) := by decide +kernel
theorem dX7_build_23 : decode cX7_build 23 = .ok (.ldc_w 298, 3) := by decide +kernel
theorem dX7_build_26 : decode cX7_build 26 = .ok (.ireturn, 1) := by decide +kernel
theorem dX7_build_27 : decode cX7_build 27 = .ok (.aload_n 0, 1) := by decide +kernel
theorem dX7_build_28 : decode cX7_build 28 = .ok (.iload_n 1, 1) := by decide +kernel
theorem dX7_build_29 : decode cX7_build 29 = .ok (.invokevirtual 299, 3) := by decide +kernel
theorem dX7_build_32 : decode cX7_build 32 = .ok (.aload_n 0, 1) := by decide +kernel
theorem dX7_build_33 : decode cX7_build 33 = .ok (.getfield 35, 3) := by decide +kernel
theorem dX7_build_36 : decode cX7_build 36 = .ok (.iload_n 1, 1) := by decide +kernel
theorem dX7_build_37 : decode cX7_build 37 = .ok (.iaload, 1) := by decide +kernel
theorem dX7_build_38 : decode cX7_build 38 = .ok (.ireturn, 1) := by decide +kernel
set_option maxRecDepth 20000 in
theorem ggX7_plant_X7_isCell : GoodIn wsX7_plant wsX7_isCell := goodIn_r _ [10, 5, 11, 12, 13, 9, 14, 15, 16, 17, 18, 19, 20, 21, 22, 23, 24, 25, 26, 27, 28, 29, 30, 31, 32, 33, 34, 35, 36, 37, 38, 39, 40, 41, 42, 43, 44, 45, 46, 47, 48, 49, 50, 51, 52, 53, 54, 55, 56, 57, 58, 59, 60, 61, 62] (by decide +kernel) (by decide +kernel)
set_option maxRecDepth 20000 in
theorem gX7_plant_X7_isCell : GoodIn wsX7_plant (wsV RX7 281 RX7 yX7_isCell wsX7_isCell) := goodIn_app (goodIn_of _ (by decide +kernel)) ggX7_plant_X7_isCell
set_option maxRecDepth 20000 in
theorem ggX7_plant_X7_in : GoodIn wsX7_plant wsX7_in := goodIn_r _ [14] (by decide +kernel) (by decide +kernel)
set_option maxRecDepth 20000 in
theorem gX7_plant_X7_in : GoodIn wsX7_plant (va_wsS RX7 93 yX7_in wsX7_in) := goodIn_app (goodIn_of _ (by decide +kernel)) ggX7_plant_X7_in
theorem dX7_plant_0 : decode cX7_plant 0 = .ok (.aload_n 0, 1) := by decide +kernel
theorem dX7_plant_1 : decode cX7_plant 1 = .ok (.iload_n 1, 1) := by decide +kernel
theorem dX7_plant_2 : decode cX7_plant 2 = .ok (.iload_n 2, 1) := by decide +kernel
theorem dX7_plant_3 : decode cX7_plant 3 = .ok (.invokevirtual 281, 3) := by decide +kernel
theorem dX7_plant_6 : decode cX7_plant 6 = .ok (.ifCond .ne 7, 3) := by decide +kernel
theorem dX7_plant_9 : decode cX7_plant 9 = .ok (.ldc_w 284, 3) := by decide +kernel
theorem dX7_plant_12 : decode cX7_plant 12 = .ok (.ireturn, 1) := by decide +kernel
theorem dX7_plant_13 : decode cX7_plant 13 = .ok (.iload_n 3, 1) := by decide +kernel
theorem dX7_plant_14 : decode cX7_plant 14 = .ok (.i2l, 1) := by decide +kernel
theorem dX7_plant_15 : decode cX7_plant 15 = .ok (.lconst 0, 1) := by decide +kernel
theorem dX7_plant_16 : decode cX7_plant 16 = .ok (.ldc2_w 303, 3) := by decide +kernel
theorem dX7_plant_19 : decode cX7_plant 19 = .ok (.invokestatic 93, 3) := by decide +kernel
theorem dX7_plant_22 : decode cX7_plant 22 = .ok (.ifCond .ne 6, 3) := by decide +kernel
theorem dX7_plant_25 : decode cX7_plant 25 = .ok (.ldc 108, 2) := by decide +kernel
theorem dX7_plant_27 : decode cX7_plant 27 = .ok (.ireturn, 1) := by decide +kernel
theorem dX7_plant_28 : decode cX7_plant 28 = .ok (.aload_n 0, 1) := by decide +kernel
theorem dX7_plant_29 : decode cX7_plant 29 = .ok (.getfield 41, 3) := by decide +kernel
theorem dX7_plant_32 : decode cX7_plant 32 = .ok (.aload_n 0, 1) := by decide +kernel
theorem dX7_plant_33 : decode cX7_plant 33 = .ok (.getfield 90, 3) := by decide +kernel
theorem dX7_plant_36 : decode cX7_plant 36 = .ok (.iload_n 2, 1) := by decide +kernel
theorem dX7_plant_37 : decode cX7_plant 37 = .ok (.imul, 1) := by decide +kernel
theorem dX7_plant_38 : decode cX7_plant 38 = .ok (.iload_n 1, 1) := by decide +kernel
theorem dX7_plant_39 : decode cX7_plant 39 = .ok (.iadd, 1) := by decide +kernel
theorem dX7_plant_40 : decode cX7_plant 40 = .ok (.iaload, 1) := by decide +kernel
theorem dX7_plant_41 : decode cX7_plant 41 = .ok (.istore 4, 2) := by decide +kernel
theorem dX7_plant_43 : decode cX7_plant 43 = .ok (.aload_n 0, 1) := by decide +kernel
theorem dX7_plant_44 : decode cX7_plant 44 = .ok (.getfield 41, 3) := by decide +kernel
theorem dX7_plant_47 : decode cX7_plant 47 = .ok (.aload_n 0, 1) := by decide +kernel
theorem dX7_plant_48 : decode cX7_plant 48 = .ok (.getfield 90, 3) := by decide +kernel
theorem dX7_plant_51 : decode cX7_plant 51 = .ok (.iload_n 2, 1) := by decide +kernel
theorem dX7_plant_52 : decode cX7_plant 52 = .ok (.imul, 1) := by decide +kernel
theorem dX7_plant_53 : decode cX7_plant 53 = .ok (.iload_n 1, 1) := by decide +kernel
theorem dX7_plant_54 : decode cX7_plant 54 = .ok (.iadd, 1) := by decide +kernel
theorem dX7_plant_55 : decode cX7_plant 55 = .ok (.iload_n 3, 1) := by decide +kernel
theorem dX7_plant_56 : decode cX7_plant 56 = .ok (.iastore, 1) := by decide +kernel
theorem dX7_plant_57 : decode cX7_plant 57 = .ok (.iload 4, 2) := by decide +kernel
theorem dX7_plant_59 : decode cX7_plant 59 = .ok (.ireturn, 1) := by decide +kernel
set_option maxRecDepth 20000 in
theorem ggX7_dayNow_X7_shareOf : GoodIn wsX7_dayNow wsX7_shareOf := goodIn_r _ [8, 9, 10, 11, 12, 7, 13, 14, 15, 16, 17, 18, 19, 20, 21, 22, 23, 1, 24, 25, 26, 27, 28, 3, 29, 30, 31, 32, 33, 34, 35, 36, 37, 38, 39, 40, 41, 42, 43, 44, 45, 46, 47, 48, 49, 50, 51, 52, 53, 54, 55, 56, 57, 58, 59, 60, 61, 62, 63, 64, 65, 66, 67, 68, 69, 70, 71, 72, 73, 74, 75, 76, 77, 78, 79, 80, 81, 82, 83, 84, 85, 86, 87, 88, 89, 90, 91, 92, 93, 94, 95, 96, 97, 98, 99, 100, 101, 102, 103, 104, 105, 106, 107, 108, 109, 110, 111, 112, 113, 114, 115, 116, 117, 118, 119] (by decide +kernel) (by decide +kernel)
set_option maxRecDepth 20000 in
theorem gX7_dayNow_X7_shareOf : GoodIn wsX7_dayNow (wsV RX7 293 RX7 yX7_shareOf wsX7_shareOf) := goodIn_app (goodIn_of _ (by decide +kernel)) ggX7_dayNow_X7_shareOf
theorem dX7_dayNow_0 : decode cX7_dayNow 0 = .ok (.iconst 0, 1) := by decide +kernel
theorem dX7_dayNow_1 : decode cX7_dayNow 1 = .ok (.istore_n 1, 1) := by decide +kernel
theorem dX7_dayNow_2 : decode cX7_dayNow 2 = .ok (.iload_n 1, 1) := by decide +kernel
theorem dX7_dayNow_3 : decode cX7_dayNow 3 = .ok (.aload_n 0, 1) := by decide +kernel
theorem dX7_dayNow_4 : decode cX7_dayNow 4 = .ok (.getfield 100, 3) := by decide +kernel
theorem dX7_dayNow_7 : decode cX7_dayNow 7 = .ok (.if_icmp .ge 25, 3) := by decide +kernel
theorem dX7_dayNow_10 : decode cX7_dayNow 10 = .ok (.aload_n 0, 1) := by decide +kernel
theorem dX7_dayNow_11 : decode cX7_dayNow 11 = .ok (.iload_n 1, 1) := by decide +kernel
theorem dX7_dayNow_12 : decode cX7_dayNow 12 = .ok (.invokevirtual 293, 3) := by decide +kernel
theorem dX7_dayNow_15 : decode cX7_dayNow 15 = .ok (.istore_n 2, 1) := by decide +kernel
theorem dX7_dayNow_16 : decode cX7_dayNow 16 = .ok (.aload_n 0, 1) := by decide +kernel
theorem dX7_dayNow_17 : decode cX7_dayNow 17 = .ok (.getfield 38, 3) := by decide +kernel
theorem dX7_dayNow_20 : decode cX7_dayNow 20 = .ok (.iload_n 1, 1) := by decide +kernel
theorem dX7_dayNow_21 : decode cX7_dayNow 21 = .ok (.dup2, 1) := by decide +kernel
theorem dX7_dayNow_22 : decode cX7_dayNow 22 = .ok (.iaload, 1) := by decide +kernel
theorem dX7_dayNow_23 : decode cX7_dayNow 23 = .ok (.iload_n 2, 1) := by decide +kernel
theorem dX7_dayNow_24 : decode cX7_dayNow 24 = .ok (.iadd, 1) := by decide +kernel
theorem dX7_dayNow_25 : decode cX7_dayNow 25 = .ok (.iastore, 1) := by decide +kernel
theorem dX7_dayNow_26 : decode cX7_dayNow 26 = .ok (.iinc 1 1, 3) := by decide +kernel
theorem dX7_dayNow_29 : decode cX7_dayNow 29 = .ok (.goto (-27), 3) := by decide +kernel
theorem dX7_dayNow_32 : decode cX7_dayNow 32 = .ok (.aload_n 0, 1) := by decide +kernel
theorem dX7_dayNow_33 : decode cX7_dayNow 33 = .ok (.dup, 1) := by decide +kernel
theorem dX7_dayNow_34 : decode cX7_dayNow 34 = .ok (.getfield 103, 3) := by decide +kernel
theorem dX7_dayNow_37 : decode cX7_dayNow 37 = .ok (.iconst 1, 1) := by decide +kernel
theorem dX7_dayNow_38 : decode cX7_dayNow 38 = .ok (.iadd, 1) := by decide +kernel
theorem dX7_dayNow_39 : decode cX7_dayNow 39 = .ok (.putfield 103, 3) := by decide +kernel
theorem dX7_dayNow_42 : decode cX7_dayNow 42 = .ok (.return_, 1) := by decide +kernel
set_option maxRecDepth 20000 in
theorem ggX7_day_X7_in : GoodIn wsX7_day wsX7_in := goodIn_r _ [9] (by decide +kernel) (by decide +kernel)
set_option maxRecDepth 20000 in
theorem gX7_day_X7_in : GoodIn wsX7_day (va_wsS RX7 93 yX7_in wsX7_in) := goodIn_app (goodIn_of _ (by decide +kernel)) ggX7_day_X7_in
set_option maxRecDepth 20000 in
theorem ggX7_day_X7_dayNow : GoodIn wsX7_day wsX7_dayNow := goodIn_r _ [13, 14, 15, 5, 16, 17, 18, 8, 19, 3, 20, 21, 22, 23, 24, 25, 26, 27, 28, 29, 30, 31, 32, 33, 34, 35, 36, 37, 38, 39, 6, 7, 9, 40, 41, 42, 43, 44, 45, 46, 47, 48, 49, 50, 51, 52, 53, 54, 55, 56, 57, 58, 59, 60, 61, 62, 63, 64, 65, 66, 67, 68, 69, 70, 71, 72, 73, 74, 75, 76, 77, 78, 79, 80, 81, 82, 83, 84, 85, 86, 87, 88, 89, 90, 91, 92, 93, 94, 95, 96, 97, 98, 99, 100, 101, 102, 103, 104, 105, 106, 107, 108, 109, 110, 111, 112, 113, 114, 115, 116, 117, 118, 119, 120, 121, 122, 123, 124, 125, 126] (by decide +kernel) (by decide +kernel)
set_option maxRecDepth 20000 in
theorem gX7_day_X7_dayNow : GoodIn wsX7_day (wsV RX7 305 RX7 yX7_dayNow wsX7_dayNow) := goodIn_app (goodIn_of _ (by decide +kernel)) ggX7_day_X7_dayNow
theorem dX7_day_0 : decode cX7_day 0 = .ok (.iload_n 1, 1) := by decide +kernel
theorem dX7_day_1 : decode cX7_day 1 = .ok (.i2l, 1) := by decide +kernel
theorem dX7_day_2 : decode cX7_day 2 = .ok (.lconst 1, 1) := by decide +kernel
theorem dX7_day_3 : decode cX7_day 3 = .ok (.ldc2_w 303, 3) := by decide +kernel
theorem dX7_day_6 : decode cX7_day 6 = .ok (.invokestatic 93, 3) := by decide +kernel
theorem dX7_day_9 : decode cX7_day 9 = .ok (.ifCond .ne 6, 3) := by decide +kernel
theorem dX7_day_12 : decode cX7_day 12 = .ok (.ldc 108, 2) := by decide +kernel
theorem dX7_day_14 : decode cX7_day 14 = .ok (.ireturn, 1) := by decide +kernel
theorem dX7_day_15 : decode cX7_day 15 = .ok (.aload_n 0, 1) := by decide +kernel
theorem dX7_day_16 : decode cX7_day 16 = .ok (.getfield 90, 3) := by decide +kernel
theorem dX7_day_19 : decode cX7_day 19 = .ok (.ifCond .ne 7, 3) := by decide +kernel
theorem dX7_day_22 : decode cX7_day 22 = .ok (.ldc_w 298, 3) := by decide +kernel
theorem dX7_day_25 : decode cX7_day 25 = .ok (.ireturn, 1) := by decide +kernel
theorem dX7_day_26 : decode cX7_day 26 = .ok (.iconst 0, 1) := by decide +kernel
theorem dX7_day_27 : decode cX7_day 27 = .ok (.istore_n 2, 1) := by decide +kernel
theorem dX7_day_28 : decode cX7_day 28 = .ok (.iload_n 2, 1) := by decide +kernel
theorem dX7_day_29 : decode cX7_day 29 = .ok (.iload_n 1, 1) := by decide +kernel
theorem dX7_day_30 : decode cX7_day 30 = .ok (.if_icmp .ge 13, 3) := by decide +kernel
theorem dX7_day_33 : decode cX7_day 33 = .ok (.aload_n 0, 1) := by decide +kernel
theorem dX7_day_34 : decode cX7_day 34 = .ok (.invokevirtual 305, 3) := by decide +kernel
theorem dX7_day_37 : decode cX7_day 37 = .ok (.iinc 2 1, 3) := by decide +kernel
theorem dX7_day_40 : decode cX7_day 40 = .ok (.goto (-12), 3) := by decide +kernel
theorem dX7_day_43 : decode cX7_day 43 = .ok (.aload_n 0, 1) := by decide +kernel
theorem dX7_day_44 : decode cX7_day 44 = .ok (.getfield 103, 3) := by decide +kernel
theorem dX7_day_47 : decode cX7_day 47 = .ok (.ireturn, 1) := by decide +kernel
theorem dX7_draw_0 : decode cX7_draw 0 = .ok (.aload_n 0, 1) := by decide +kernel
theorem dX7_draw_1 : decode cX7_draw 1 = .ok (.aload_n 0, 1) := by decide +kernel
theorem dX7_draw_2 : decode cX7_draw 2 = .ok (.getfield 308, 3) := by decide +kernel
theorem dX7_draw_5 : decode cX7_draw 5 = .ok (.i2l, 1) := by decide +kernel
theorem dX7_draw_6 : decode cX7_draw 6 = .ok (.ldc2_w 311, 3) := by decide +kernel
theorem dX7_draw_9 : decode cX7_draw 9 = .ok (.lmul, 1) := by decide +kernel
theorem dX7_draw_10 : decode cX7_draw 10 = .ok (.ldc2_w 313, 3) := by decide +kernel
theorem dX7_draw_13 : decode cX7_draw 13 = .ok (.ladd, 1) := by decide +kernel
theorem dX7_draw_14 : decode cX7_draw 14 = .ok (.ldc2_w 315, 3) := by decide +kernel
theorem dX7_draw_17 : decode cX7_draw 17 = .ok (.lrem, 1) := by decide +kernel
theorem dX7_draw_18 : decode cX7_draw 18 = .ok (.l2i, 1) := by decide +kernel
theorem dX7_draw_19 : decode cX7_draw 19 = .ok (.putfield 308, 3) := by decide +kernel
theorem dX7_draw_22 : decode cX7_draw 22 = .ok (.aload_n 0, 1) := by decide +kernel
theorem dX7_draw_23 : decode cX7_draw 23 = .ok (.getfield 308, 3) := by decide +kernel
theorem dX7_draw_26 : decode cX7_draw 26 = .ok (.ldc_w 317, 3) := by decide +kernel
theorem dX7_draw_29 : decode cX7_draw 29 = .ok (.idiv, 1) := by decide +kernel
theorem dX7_draw_30 : decode cX7_draw 30 = .ok (.iload_n 1, 1) := by decide +kernel
theorem dX7_draw_31 : decode cX7_draw 31 = .ok (.irem, 1) := by decide +kernel
theorem dX7_draw_32 : decode cX7_draw 32 = .ok (.ireturn, 1) := by decide +kernel
set_option maxRecDepth 20000 in
theorem ggX7_drift_X7_in : GoodIn wsX7_drift wsX7_in := goodIn_r _ [13] (by decide +kernel) (by decide +kernel)
set_option maxRecDepth 20000 in
theorem gX7_drift_X7_in : GoodIn wsX7_drift (va_wsS RX7 93 yX7_in wsX7_in) := goodIn_app (goodIn_of _ (by decide +kernel)) ggX7_drift_X7_in
set_option maxRecDepth 20000 in
theorem ggX7_drift_X7_draw : GoodIn wsX7_drift wsX7_draw := goodIn_r _ [17, 18, 19, 20, 21, 22, 93, 94, 95, 96, 97, 98, 99, 100, 101, 102, 103, 104, 105, 106, 107, 108, 109, 110, 111, 112, 113, 114, 115, 116, 117, 118, 119, 120, 121, 122, 123, 124, 125, 126, 127, 128, 129, 130, 131, 132, 133, 134, 135, 136, 137, 138, 139, 140] (by decide +kernel) (by decide +kernel)
set_option maxRecDepth 20000 in
theorem gX7_drift_X7_draw : GoodIn wsX7_drift (wsV RX7 318 RX7 yX7_draw wsX7_draw) := goodIn_app (goodIn_of _ (by decide +kernel)) ggX7_drift_X7_draw
set_option maxRecDepth 20000 in
theorem ggX7_drift_X7_buildNow : GoodIn wsX7_drift wsX7_buildNow := goodIn_r _ [26, 7, 5, 6, 93, 94, 95, 96, 97, 98, 99, 100, 101, 102, 103, 104, 105, 106, 107, 108, 109, 110, 111, 112, 113, 114, 115, 116, 117, 118, 119, 120, 121, 122, 123, 124, 125, 126, 127, 128, 129, 130, 131, 132, 133, 134, 135, 136, 137, 138, 139, 140] (by decide +kernel) (by decide +kernel)
set_option maxRecDepth 20000 in
theorem gX7_drift_X7_buildNow : GoodIn wsX7_drift (wsV RX7 299 RX7 yX7_buildNow wsX7_buildNow) := goodIn_app (goodIn_of _ (by decide +kernel)) ggX7_drift_X7_buildNow
set_option maxRecDepth 20000 in
theorem ggX7_drift_X7_cells : GoodIn wsX7_drift wsX7_cells := goodIn_r _ [30, 31, 32, 93, 94, 95, 96, 97, 98, 99, 100, 101, 102, 103, 104, 105, 106, 107, 108, 109, 110, 111, 112, 113, 114, 115, 116, 117, 118, 119, 120, 121, 122, 123, 124, 125, 126, 127, 128, 129, 130, 131, 132, 133, 134, 135, 136, 137, 138, 139, 140] (by decide +kernel) (by decide +kernel)
set_option maxRecDepth 20000 in
theorem gX7_drift_X7_cells : GoodIn wsX7_drift (wsV RX7 232 RX7 yX7_cells wsX7_cells) := goodIn_app (goodIn_of _ (by decide +kernel)) ggX7_drift_X7_cells
set_option maxRecDepth 20000 in
theorem ggX7_drift_X7_dayNow : GoodIn wsX7_drift wsX7_dayNow := goodIn_r _ [36, 3, 5, 9, 37, 38, 39, 12, 40, 31, 27, 28, 29, 30, 32, 41, 42, 43, 44, 45, 46, 47, 48, 49, 50, 51, 52, 53, 54, 55, 10, 11, 13, 56, 57, 58, 59, 60, 61, 62, 63, 64, 65, 66, 67, 68, 69, 70, 71, 72, 7, 73, 74, 75, 76, 77, 8, 78, 79, 80, 81, 82, 83, 84, 85, 86, 87, 88, 89, 90, 91, 92, 93, 94, 95, 96, 97, 98, 99, 100, 101, 102, 103, 104, 105, 106, 107, 108, 109, 110, 111, 112, 113, 114, 115, 116, 117, 118, 119, 120, 121, 122, 123, 124, 125, 126, 127, 128, 129, 130, 131, 132, 133, 134, 135, 136, 137, 138, 139, 140] (by decide +kernel) (by decide +kernel)
set_option maxRecDepth 20000 in
theorem gX7_drift_X7_dayNow : GoodIn wsX7_drift (wsV RX7 305 RX7 yX7_dayNow wsX7_dayNow) := goodIn_app (goodIn_of _ (by decide +kernel)) ggX7_drift_X7_dayNow
theorem dX7_drift_0 : decode cX7_drift 0 = .ok (.iload_n 1, 1) := by decide +kernel
theorem dX7_drift_1 : decode cX7_drift 1 = .ok (.i2l, 1) := by decide +kernel
theorem dX7_drift_2 : decode cX7_drift 2 = .ok (.lconst 1, 1) := by decide +kernel
theorem dX7_drift_3 : decode cX7_drift 3 = .ok (.ldc2_w 303, 3) := by decide +kernel
theorem dX7_drift_6 : decode cX7_drift 6 = .ok (.invokestatic 93, 3) := by decide +kernel
theorem dX7_drift_9 : decode cX7_drift 9 = .ok (.ifCond .ne 6, 3) := by decide +kernel
theorem dX7_drift_12 : decode cX7_drift 12 = .ok (.ldc 108, 2) := by decide +kernel
theorem dX7_drift_14 : decode cX7_drift 14 = .ok (.ireturn, 1) := by decide +kernel
theorem dX7_drift_15 : decode cX7_drift 15 = .ok (.aload_n 0, 1) := by decide +kernel
theorem dX7_drift_16 : decode cX7_drift 16 = .ok (.getfield 100, 3) := by decide +kernel
theorem dX7_drift_19 : decode cX7_drift 19 = .ok (.ifCond .ne 7, 3) := by decide +kernel
theorem dX7_drift_22 : decode cX7_drift 22 = .ok (.ldc_w 298, 3) := by decide +kernel
theorem dX7_drift_25 : decode cX7_drift 25 = .ok (.ireturn, 1) := by decide +kernel
theorem dX7_drift_26 : decode cX7_drift 26 = .ok (.iconst 0, 1) := by decide +kernel
theorem dX7_drift_27 : decode cX7_drift 27 = .ok (.istore_n 2, 1) := by decide +kernel
theorem dX7_drift_28 : decode cX7_drift 28 = .ok (.iload_n 2, 1) := by decide +kernel
theorem dX7_drift_29 : decode cX7_drift 29 = .ok (.iload_n 1, 1) := by decide +kernel
theorem dX7_drift_30 : decode cX7_drift 30 = .ok (.if_icmp .ge 77, 3) := by decide +kernel
theorem dX7_drift_33 : decode cX7_drift 33 = .ok (.aload_n 0, 1) := by decide +kernel
theorem dX7_drift_34 : decode cX7_drift 34 = .ok (.aload_n 0, 1) := by decide +kernel
theorem dX7_drift_35 : decode cX7_drift 35 = .ok (.getfield 100, 3) := by decide +kernel
theorem dX7_drift_38 : decode cX7_drift 38 = .ok (.invokevirtual 318, 3) := by decide +kernel
theorem dX7_drift_41 : decode cX7_drift 41 = .ok (.istore_n 3, 1) := by decide +kernel
theorem dX7_drift_42 : decode cX7_drift 42 = .ok (.aload_n 0, 1) := by decide +kernel
theorem dX7_drift_43 : decode cX7_drift 43 = .ok (.getfield 38, 3) := by decide +kernel
theorem dX7_drift_46 : decode cX7_drift 46 = .ok (.iload_n 3, 1) := by decide +kernel
theorem dX7_drift_47 : decode cX7_drift 47 = .ok (.iaload, 1) := by decide +kernel
theorem dX7_drift_48 : decode cX7_drift 48 = .ok (.aload_n 0, 1) := by decide +kernel
theorem dX7_drift_49 : decode cX7_drift 49 = .ok (.getfield 32, 3) := by decide +kernel
theorem dX7_drift_52 : decode cX7_drift 52 = .ok (.if_icmp .lt 22, 3) := by decide +kernel
theorem dX7_drift_55 : decode cX7_drift 55 = .ok (.aload_n 0, 1) := by decide +kernel
theorem dX7_drift_56 : decode cX7_drift 56 = .ok (.getfield 35, 3) := by decide +kernel
theorem dX7_drift_59 : decode cX7_drift 59 = .ok (.iload_n 3, 1) := by decide +kernel
theorem dX7_drift_60 : decode cX7_drift 60 = .ok (.iaload, 1) := by decide +kernel
theorem dX7_drift_61 : decode cX7_drift 61 = .ok (.bipush 9, 2) := by decide +kernel
theorem dX7_drift_63 : decode cX7_drift 63 = .ok (.if_icmp .ge 11, 3) := by decide +kernel
theorem dX7_drift_66 : decode cX7_drift 66 = .ok (.aload_n 0, 1) := by decide +kernel
theorem dX7_drift_67 : decode cX7_drift 67 = .ok (.iload_n 3, 1) := by decide +kernel
theorem dX7_drift_68 : decode cX7_drift 68 = .ok (.invokevirtual 299, 3) := by decide +kernel
theorem dX7_drift_71 : decode cX7_drift 71 = .ok (.goto 26, 3) := by decide +kernel
theorem dX7_drift_74 : decode cX7_drift 74 = .ok (.aload_n 0, 1) := by decide +kernel
theorem dX7_drift_75 : decode cX7_drift 75 = .ok (.aload_n 0, 1) := by decide +kernel
theorem dX7_drift_76 : decode cX7_drift 76 = .ok (.invokevirtual 232, 3) := by decide +kernel
theorem dX7_drift_79 : decode cX7_drift 79 = .ok (.invokevirtual 318, 3) := by decide +kernel
theorem dX7_drift_82 : decode cX7_drift 82 = .ok (.istore 4, 2) := by decide +kernel
theorem dX7_drift_84 : decode cX7_drift 84 = .ok (.aload_n 0, 1) := by decide +kernel
theorem dX7_drift_85 : decode cX7_drift 85 = .ok (.getfield 41, 3) := by decide +kernel
theorem dX7_drift_88 : decode cX7_drift 88 = .ok (.iload 4, 2) := by decide +kernel
theorem dX7_drift_90 : decode cX7_drift 90 = .ok (.aload_n 0, 1) := by decide +kernel
theorem dX7_drift_91 : decode cX7_drift 91 = .ok (.bipush 10, 2) := by decide +kernel
theorem dX7_drift_93 : decode cX7_drift 93 = .ok (.invokevirtual 318, 3) := by decide +kernel
theorem dX7_drift_96 : decode cX7_drift 96 = .ok (.iastore, 1) := by decide +kernel
theorem dX7_drift_97 : decode cX7_drift 97 = .ok (.aload_n 0, 1) := by decide +kernel
theorem dX7_drift_98 : decode cX7_drift 98 = .ok (.invokevirtual 305, 3) := by decide +kernel
theorem dX7_drift_101 : decode cX7_drift 101 = .ok (.iinc 2 1, 3) := by decide +kernel
theorem dX7_drift_104 : decode cX7_drift 104 = .ok (.goto (-76), 3) := by decide +kernel
theorem dX7_drift_107 : decode cX7_drift 107 = .ok (.aload_n 0, 1) := by decide +kernel
theorem dX7_drift_108 : decode cX7_drift 108 = .ok (.getfield 103, 3) := by decide +kernel
theorem dX7_drift_111 : decode cX7_drift 111 = .ok (.ireturn, 1) := by decide +kernel
set_option maxRecDepth 20000 in
theorem ggX7_tree_X7_isMan : GoodIn wsX7_tree wsX7_isMan := goodIn_r _ [11, 12, 13, 14, 10, 15, 79, 80, 81, 82, 83, 84, 85, 86, 87, 88, 89, 90, 91, 92, 93, 94, 95, 96, 97, 98, 99, 100, 101, 102, 103, 104, 105, 106, 107, 108, 109, 110, 111, 112, 113, 114, 115, 116, 117, 118, 119, 120, 121, 122, 123, 124, 125, 126] (by decide +kernel) (by decide +kernel)
set_option maxRecDepth 20000 in
theorem gX7_tree_X7_isMan : GoodIn wsX7_tree (wsV RX7 285 RX7 yX7_isMan wsX7_isMan) := goodIn_app (goodIn_of _ (by decide +kernel)) ggX7_tree_X7_isMan
set_option maxRecDepth 20000 in
theorem ggX7_tree_X7_in : GoodIn wsX7_tree wsX7_in := goodIn_r _ [15] (by decide +kernel) (by decide +kernel)
set_option maxRecDepth 20000 in
theorem gX7_tree_X7_in : GoodIn wsX7_tree (va_wsS RX7 93 yX7_in wsX7_in) := goodIn_app (goodIn_of _ (by decide +kernel)) ggX7_tree_X7_in
set_option maxRecDepth 20000 in
theorem ggX7_tree_X7_cells : GoodIn wsX7_tree wsX7_cells := goodIn_r _ [19, 6, 20, 79, 80, 81, 82, 83, 84, 85, 86, 87, 88, 89, 90, 91, 92, 93, 94, 95, 96, 97, 98, 99, 100, 101, 102, 103, 104, 105, 106, 107, 108, 109, 110, 111, 112, 113, 114, 115, 116, 117, 118, 119, 120, 121, 122, 123, 124, 125, 126] (by decide +kernel) (by decide +kernel)
set_option maxRecDepth 20000 in
theorem gX7_tree_X7_cells : GoodIn wsX7_tree (wsV RX7 232 RX7 yX7_cells wsX7_cells) := goodIn_app (goodIn_of _ (by decide +kernel)) ggX7_tree_X7_cells
set_option maxRecDepth 20000 in
theorem ggX7_tree_X7_shareOf : GoodIn wsX7_tree wsX7_shareOf := goodIn_r _ [24, 6, 16, 17, 18, 10, 19, 20, 25, 26, 27, 28, 29, 30, 31, 32, 33, 12, 34, 35, 36, 37, 38, 39, 40, 13, 14, 15, 41, 42, 43, 44, 45, 46, 47, 48, 49, 50, 51, 52, 53, 54, 55, 56, 57, 58, 59, 60, 61, 62, 63, 5, 64, 65, 66, 67, 68, 69, 70, 71, 72, 73, 74, 75, 76, 77, 78, 79, 80, 81, 82, 83, 84, 85, 86, 87, 88, 89, 90, 91, 92, 93, 94, 95, 96, 97, 98, 99, 100, 101, 102, 103, 104, 105, 106, 107, 108, 109, 110, 111, 112, 113, 114, 115, 116, 117, 118, 119, 120, 121, 122, 123, 124, 125, 126] (by decide +kernel) (by decide +kernel)
set_option maxRecDepth 20000 in
theorem gX7_tree_X7_shareOf : GoodIn wsX7_tree (wsV RX7 293 RX7 yX7_shareOf wsX7_shareOf) := goodIn_app (goodIn_of _ (by decide +kernel)) ggX7_tree_X7_shareOf
theorem dX7_tree_0 : decode cX7_tree 0 = .ok (.aload_n 0, 1) := by decide +kernel
theorem dX7_tree_1 : decode cX7_tree 1 = .ok (.iload_n 1, 1) := by decide +kernel
theorem dX7_tree_2 : decode cX7_tree 2 = .ok (.invokevirtual 285, 3) := by decide +kernel
theorem dX7_tree_5 : decode cX7_tree 5 = .ok (.ifCond .ne 7, 3) := by decide +kernel
theorem dX7_tree_8 : decode cX7_tree 8 = .ok (.ldc_w 284, 3) := by decide +kernel
theorem dX7_tree_11 : decode cX7_tree 11 = .ok (.ireturn, 1) := by decide +kernel
theorem dX7_tree_12 : decode cX7_tree 12 = .ok (.iload_n 2, 1) := by decide +kernel
theorem dX7_tree_13 : decode cX7_tree 13 = .ok (.i2l, 1) := by decide +kernel
theorem dX7_tree_14 : decode cX7_tree 14 = .ok (.lconst 1, 1) := by decide +kernel
theorem dX7_tree_15 : decode cX7_tree 15 = .ok (.ldc2_w 303, 3) := by decide +kernel
theorem dX7_tree_18 : decode cX7_tree 18 = .ok (.invokestatic 93, 3) := by decide +kernel
theorem dX7_tree_21 : decode cX7_tree 21 = .ok (.ifCond .eq 15, 3) := by decide +kernel
theorem dX7_tree_24 : decode cX7_tree 24 = .ok (.iload_n 3, 1) := by decide +kernel
theorem dX7_tree_25 : decode cX7_tree 25 = .ok (.i2l, 1) := by decide +kernel
theorem dX7_tree_26 : decode cX7_tree 26 = .ok (.lconst 0, 1) := by decide +kernel
theorem dX7_tree_27 : decode cX7_tree 27 = .ok (.ldc2_w 296, 3) := by decide +kernel
theorem dX7_tree_30 : decode cX7_tree 30 = .ok (.invokestatic 93, 3) := by decide +kernel
theorem dX7_tree_33 : decode cX7_tree 33 = .ok (.ifCond .ne 6, 3) := by decide +kernel
theorem dX7_tree_36 : decode cX7_tree 36 = .ok (.ldc 108, 2) := by decide +kernel
theorem dX7_tree_38 : decode cX7_tree 38 = .ok (.ireturn, 1) := by decide +kernel
theorem dX7_tree_39 : decode cX7_tree 39 = .ok (.iconst (-1), 1) := by decide +kernel
theorem dX7_tree_40 : decode cX7_tree 40 = .ok (.istore 4, 2) := by decide +kernel
theorem dX7_tree_42 : decode cX7_tree 42 = .ok (.iconst 0, 1) := by decide +kernel
theorem dX7_tree_43 : decode cX7_tree 43 = .ok (.istore 5, 2) := by decide +kernel
theorem dX7_tree_45 : decode cX7_tree 45 = .ok (.iconst 0, 1) := by decide +kernel
theorem dX7_tree_46 : decode cX7_tree 46 = .ok (.istore 6, 2) := by decide +kernel
theorem dX7_tree_48 : decode cX7_tree 48 = .ok (.iload 6, 2) := by decide +kernel
theorem dX7_tree_50 : decode cX7_tree 50 = .ok (.aload_n 0, 1) := by decide +kernel
theorem dX7_tree_51 : decode cX7_tree 51 = .ok (.invokevirtual 232, 3) := by decide +kernel
theorem dX7_tree_54 : decode cX7_tree 54 = .ok (.if_icmp .ge 89, 3) := by decide +kernel
theorem dX7_tree_57 : decode cX7_tree 57 = .ok (.aload_n 0, 1) := by decide +kernel
theorem dX7_tree_58 : decode cX7_tree 58 = .ok (.getfield 41, 3) := by decide +kernel
theorem dX7_tree_61 : decode cX7_tree 61 = .ok (.iload 6, 2) := by decide +kernel
theorem dX7_tree_63 : decode cX7_tree 63 = .ok (.iaload, 1) := by decide +kernel
theorem dX7_tree_64 : decode cX7_tree 64 = .ok (.istore 7, 2) := by decide +kernel
theorem dX7_tree_66 : decode cX7_tree 66 = .ok (.aload_n 0, 1) := by decide +kernel
theorem dX7_tree_67 : decode cX7_tree 67 = .ok (.getfield 41, 3) := by decide +kernel
theorem dX7_tree_70 : decode cX7_tree 70 = .ok (.iload 6, 2) := by decide +kernel
theorem dX7_tree_72 : decode cX7_tree 72 = .ok (.iload_n 2, 1) := by decide +kernel
theorem dX7_tree_73 : decode cX7_tree 73 = .ok (.iastore, 1) := by decide +kernel
theorem dX7_tree_74 : decode cX7_tree 74 = .ok (.aload_n 0, 1) := by decide +kernel
theorem dX7_tree_75 : decode cX7_tree 75 = .ok (.iload_n 1, 1) := by decide +kernel
theorem dX7_tree_76 : decode cX7_tree 76 = .ok (.invokevirtual 293, 3) := by decide +kernel
theorem dX7_tree_79 : decode cX7_tree 79 = .ok (.istore 8, 2) := by decide +kernel
theorem dX7_tree_81 : decode cX7_tree 81 = .ok (.aload_n 0, 1) := by decide +kernel
theorem dX7_tree_82 : decode cX7_tree 82 = .ok (.getfield 41, 3) := by decide +kernel
theorem dX7_tree_85 : decode cX7_tree 85 = .ok (.iload 6, 2) := by decide +kernel
theorem dX7_tree_87 : decode cX7_tree 87 = .ok (.iload 7, 2) := by decide +kernel
theorem dX7_tree_89 : decode cX7_tree 89 = .ok (.iastore, 1) := by decide +kernel
theorem dX7_tree_90 : decode cX7_tree 90 = .ok (.iload 4, 2) := by decide +kernel
theorem dX7_tree_92 : decode cX7_tree 92 = .ok (.ifCond .lt 10, 3) := by decide +kernel
theorem dX7_tree_95 : decode cX7_tree 95 = .ok (.iload 8, 2) := by decide +kernel
theorem dX7_tree_97 : decode cX7_tree 97 = .ok (.iload 5, 2) := by decide +kernel
theorem dX7_tree_99 : decode cX7_tree 99 = .ok (.if_icmp .le 7, 3) := by decide +kernel
theorem dX7_tree_102 : decode cX7_tree 102 = .ok (.iconst 1, 1) := by decide +kernel
theorem dX7_tree_103 : decode cX7_tree 103 = .ok (.goto 4, 3) := by decide +kernel
theorem dX7_tree_106 : decode cX7_tree 106 = .ok (.iconst 0, 1) := by decide +kernel
theorem dX7_tree_107 : decode cX7_tree 107 = .ok (.istore 9, 2) := by decide +kernel
theorem dX7_tree_109 : decode cX7_tree 109 = .ok (.iload 9, 2) := by decide +kernel
theorem dX7_tree_111 : decode cX7_tree 111 = .ok (.ifCond .eq 8, 3) := by decide +kernel
theorem dX7_tree_114 : decode cX7_tree 114 = .ok (.iload 6, 2) := by decide +kernel
theorem dX7_tree_116 : decode cX7_tree 116 = .ok (.goto 5, 3) := by decide +kernel
theorem dX7_tree_119 : decode cX7_tree 119 = .ok (.iload 4, 2) := by decide +kernel
theorem dX7_tree_121 : decode cX7_tree 121 = .ok (.istore 4, 2) := by decide +kernel
theorem dX7_tree_123 : decode cX7_tree 123 = .ok (.iload 9, 2) := by decide +kernel
theorem dX7_tree_125 : decode cX7_tree 125 = .ok (.ifCond .eq 8, 3) := by decide +kernel
theorem dX7_tree_128 : decode cX7_tree 128 = .ok (.iload 8, 2) := by decide +kernel
theorem dX7_tree_130 : decode cX7_tree 130 = .ok (.goto 5, 3) := by decide +kernel
theorem dX7_tree_133 : decode cX7_tree 133 = .ok (.iload 5, 2) := by decide +kernel
theorem dX7_tree_135 : decode cX7_tree 135 = .ok (.istore 5, 2) := by decide +kernel
theorem dX7_tree_137 : decode cX7_tree 137 = .ok (.iinc 6 1, 3) := by decide +kernel
theorem dX7_tree_140 : decode cX7_tree 140 = .ok (.goto (-92), 3) := by decide +kernel
theorem dX7_tree_143 : decode cX7_tree 143 = .ok (.iload_n 3, 1) := by decide +kernel
theorem dX7_tree_144 : decode cX7_tree 144 = .ok (.ifCond .ne 13, 3) := by decide +kernel
theorem dX7_tree_147 : decode cX7_tree 147 = .ok (.iload 4, 2) := by decide +kernel
theorem dX7_tree_149 : decode cX7_tree 149 = .ok (.aload_n 0, 1) := by decide +kernel
theorem dX7_tree_150 : decode cX7_tree 150 = .ok (.getfield 90, 3) := by decide +kernel
theorem dX7_tree_153 : decode cX7_tree 153 = .ok (.irem, 1) := by decide +kernel
theorem dX7_tree_154 : decode cX7_tree 154 = .ok (.goto 20, 3) := by decide +kernel
theorem dX7_tree_157 : decode cX7_tree 157 = .ok (.iload_n 3, 1) := by decide +kernel
theorem dX7_tree_158 : decode cX7_tree 158 = .ok (.iconst 1, 1) := by decide +kernel
theorem dX7_tree_159 : decode cX7_tree 159 = .ok (.if_icmp .ne 13, 3) := by decide +kernel
theorem dX7_tree_162 : decode cX7_tree 162 = .ok (.iload 4, 2) := by decide +kernel
theorem dX7_tree_164 : decode cX7_tree 164 = .ok (.aload_n 0, 1) := by decide +kernel
theorem dX7_tree_165 : decode cX7_tree 165 = .ok (.getfield 90, 3) := by decide +kernel
theorem dX7_tree_168 : decode cX7_tree 168 = .ok (.idiv, 1) := by decide +kernel
theorem dX7_tree_169 : decode cX7_tree 169 = .ok (.goto 5, 3) := by decide +kernel
theorem dX7_tree_172 : decode cX7_tree 172 = .ok (.iload 5, 2) := by decide +kernel
theorem dX7_tree_174 : decode cX7_tree 174 = .ok (.ireturn, 1) := by decide +kernel
set_option maxRecDepth 20000 in
theorem ggX7_wins_X7_isMan : GoodIn wsX7_wins wsX7_isMan := goodIn_r _ [8, 9, 10, 11, 7, 12, 77, 78, 79, 80, 81, 82, 83, 84, 85, 86, 87, 88, 89, 90, 91, 92, 93, 94, 95, 96, 97, 98, 99, 100, 101, 102, 103, 104, 105, 106, 107, 108, 109, 110, 111, 112, 113, 114, 115, 116, 117, 118, 119, 120, 121, 122, 123, 124] (by decide +kernel) (by decide +kernel)
set_option maxRecDepth 20000 in
theorem gX7_wins_X7_isMan : GoodIn wsX7_wins (wsV RX7 285 RX7 yX7_isMan wsX7_isMan) := goodIn_app (goodIn_of _ (by decide +kernel)) ggX7_wins_X7_isMan
set_option maxRecDepth 20000 in
theorem ggX7_wins_X7_shareOf : GoodIn wsX7_wins wsX7_shareOf := goodIn_r _ [16, 17, 18, 19, 20, 7, 21, 22, 23, 24, 25, 26, 27, 28, 29, 30, 31, 9, 32, 33, 34, 35, 36, 37, 38, 10, 11, 12, 39, 40, 41, 42, 43, 44, 45, 46, 47, 48, 49, 50, 51, 52, 53, 54, 55, 2, 56, 57, 58, 59, 60, 61, 62, 63, 64, 65, 66, 67, 68, 69, 70, 71, 72, 73, 74, 75, 76, 77, 78, 79, 80, 81, 82, 83, 84, 85, 86, 87, 88, 89, 90, 91, 92, 93, 94, 95, 96, 97, 98, 99, 100, 101, 102, 103, 104, 105, 106, 107, 108, 109, 110, 111, 112, 113, 114, 115, 116, 117, 118, 119, 120, 121, 122, 123, 124] (by decide +kernel) (by decide +kernel)
set_option maxRecDepth 20000 in
theorem gX7_wins_X7_shareOf : GoodIn wsX7_wins (wsV RX7 293 RX7 yX7_shareOf wsX7_shareOf) := goodIn_app (goodIn_of _ (by decide +kernel)) ggX7_wins_X7_shareOf
theorem dX7_wins_0 : decode cX7_wins 0 = .ok (.aload_n 0, 1) := by decide +kernel
theorem dX7_wins_1 : decode cX7_wins 1 = .ok (.iload_n 1, 1) := by decide +kernel
theorem dX7_wins_2 : decode cX7_wins 2 = .ok (.invokevirtual 285, 3) := by decide +kernel
theorem dX7_wins_5 : decode cX7_wins 5 = .ok (.ifCond .ne 7, 3) := by decide +kernel
theorem dX7_wins_8 : decode cX7_wins 8 = .ok (.ldc_w 284, 3) := by decide +kernel
theorem dX7_wins_11 : decode cX7_wins 11 = .ok (.ireturn, 1) := by decide +kernel
theorem dX7_wins_12 : decode cX7_wins 12 = .ok (.aload_n 0, 1) := by decide +kernel
theorem dX7_wins_13 : decode cX7_wins 13 = .ok (.getfield 35, 3) := by decide +kernel
theorem dX7_wins_16 : decode cX7_wins 16 = .ok (.iload_n 1, 1) := by decide +kernel
theorem dX7_wins_17 : decode cX7_wins 17 = .ok (.iaload, 1) := by decide +kernel
theorem dX7_wins_18 : decode cX7_wins 18 = .ok (.bipush 9, 2) := by decide +kernel
theorem dX7_wins_20 : decode cX7_wins 20 = .ok (.if_icmp .ne 7, 3) := by decide +kernel
theorem dX7_wins_23 : decode cX7_wins 23 = .ok (.ldc_w 298, 3) := by decide +kernel
theorem dX7_wins_26 : decode cX7_wins 26 = .ok (.ireturn, 1) := by decide +kernel
theorem dX7_wins_27 : decode cX7_wins 27 = .ok (.aload_n 0, 1) := by decide +kernel
theorem dX7_wins_28 : decode cX7_wins 28 = .ok (.iload_n 1, 1) := by decide +kernel
theorem dX7_wins_29 : decode cX7_wins 29 = .ok (.invokevirtual 293, 3) := by decide +kernel
theorem dX7_wins_32 : decode cX7_wins 32 = .ok (.istore_n 2, 1) := by decide +kernel
theorem dX7_wins_33 : decode cX7_wins 33 = .ok (.aload_n 0, 1) := by decide +kernel
theorem dX7_wins_34 : decode cX7_wins 34 = .ok (.getfield 35, 3) := by decide +kernel
theorem dX7_wins_37 : decode cX7_wins 37 = .ok (.iload_n 1, 1) := by decide +kernel
theorem dX7_wins_38 : decode cX7_wins 38 = .ok (.dup2, 1) := by decide +kernel
theorem dX7_wins_39 : decode cX7_wins 39 = .ok (.iaload, 1) := by decide +kernel
theorem dX7_wins_40 : decode cX7_wins 40 = .ok (.iconst 1, 1) := by decide +kernel
theorem dX7_wins_41 : decode cX7_wins 41 = .ok (.iadd, 1) := by decide +kernel
theorem dX7_wins_42 : decode cX7_wins 42 = .ok (.iastore, 1) := by decide +kernel
theorem dX7_wins_43 : decode cX7_wins 43 = .ok (.aload_n 0, 1) := by decide +kernel
theorem dX7_wins_44 : decode cX7_wins 44 = .ok (.iload_n 1, 1) := by decide +kernel
theorem dX7_wins_45 : decode cX7_wins 45 = .ok (.invokevirtual 293, 3) := by decide +kernel
theorem dX7_wins_48 : decode cX7_wins 48 = .ok (.istore_n 3, 1) := by decide +kernel
theorem dX7_wins_49 : decode cX7_wins 49 = .ok (.aload_n 0, 1) := by decide +kernel
theorem dX7_wins_50 : decode cX7_wins 50 = .ok (.getfield 35, 3) := by decide +kernel
theorem dX7_wins_53 : decode cX7_wins 53 = .ok (.iload_n 1, 1) := by decide +kernel
theorem dX7_wins_54 : decode cX7_wins 54 = .ok (.dup2, 1) := by decide +kernel
theorem dX7_wins_55 : decode cX7_wins 55 = .ok (.iaload, 1) := by decide +kernel
theorem dX7_wins_56 : decode cX7_wins 56 = .ok (.iconst 1, 1) := by decide +kernel
theorem dX7_wins_57 : decode cX7_wins 57 = .ok (.isub, 1) := by decide +kernel
theorem dX7_wins_58 : decode cX7_wins 58 = .ok (.iastore, 1) := by decide +kernel
theorem dX7_wins_59 : decode cX7_wins 59 = .ok (.iload_n 3, 1) := by decide +kernel
theorem dX7_wins_60 : decode cX7_wins 60 = .ok (.iload_n 2, 1) := by decide +kernel
theorem dX7_wins_61 : decode cX7_wins 61 = .ok (.isub, 1) := by decide +kernel
theorem dX7_wins_62 : decode cX7_wins 62 = .ok (.ireturn, 1) := by decide +kernel
set_option maxRecDepth 20000 in
theorem ggX7_view_X7_isMan : GoodIn wsX7_view wsX7_isMan := goodIn_r _ [8, 9, 10, 11, 7, 12, 80, 81, 82, 83, 84, 85, 86, 87, 88, 89, 90, 91, 92, 93, 94, 95, 96, 97, 98, 99, 100, 101, 102, 103, 104, 105, 106, 107, 108, 109, 110, 111, 112, 113, 114, 115, 116, 117, 118, 119, 120, 121, 122, 123, 124, 125, 126, 127] (by decide +kernel) (by decide +kernel)
set_option maxRecDepth 20000 in
theorem gX7_view_X7_isMan : GoodIn wsX7_view (wsV RX7 285 RX7 yX7_isMan wsX7_isMan) := goodIn_app (goodIn_of _ (by decide +kernel)) ggX7_view_X7_isMan
set_option maxRecDepth 20000 in
theorem ggX7_view_X7_isCell : GoodIn wsX7_view wsX7_isCell := goodIn_r _ [16, 3, 17, 10, 11, 7, 12, 80, 81, 82, 83, 84, 85, 86, 87, 88, 89, 90, 91, 92, 93, 94, 95, 96, 97, 98, 99, 100, 101, 102, 103, 104, 105, 106, 107, 108, 109, 110, 111, 112, 113, 114, 115, 116, 117, 118, 119, 120, 121, 122, 123, 124, 125, 126, 127] (by decide +kernel) (by decide +kernel)
set_option maxRecDepth 20000 in
theorem gX7_view_X7_isCell : GoodIn wsX7_view (wsV RX7 281 RX7 yX7_isCell wsX7_isCell) := goodIn_app (goodIn_of _ (by decide +kernel)) ggX7_view_X7_isCell
set_option maxRecDepth 20000 in
theorem ggX7_view_X7_shareOf : GoodIn wsX7_view wsX7_shareOf := goodIn_r _ [21, 3, 22, 23, 24, 7, 25, 17, 26, 27, 28, 29, 30, 31, 32, 33, 34, 9, 35, 36, 37, 38, 39, 40, 41, 10, 11, 12, 42, 43, 44, 45, 46, 47, 48, 49, 50, 51, 52, 53, 54, 55, 56, 57, 58, 59, 60, 61, 62, 63, 64, 2, 65, 66, 67, 68, 69, 70, 71, 72, 73, 74, 75, 76, 77, 78, 79, 80, 81, 82, 83, 84, 85, 86, 87, 88, 89, 90, 91, 92, 93, 94, 95, 96, 97, 98, 99, 100, 101, 102, 103, 104, 105, 106, 107, 108, 109, 110, 111, 112, 113, 114, 115, 116, 117, 118, 119, 120, 121, 122, 123, 124, 125, 126, 127] (by decide +kernel) (by decide +kernel)
set_option maxRecDepth 20000 in
theorem gX7_view_X7_shareOf : GoodIn wsX7_view (wsV RX7 293 RX7 yX7_shareOf wsX7_shareOf) := goodIn_app (goodIn_of _ (by decide +kernel)) ggX7_view_X7_shareOf
theorem dX7_view_0 : decode cX7_view 0 = .ok (.aload_n 0, 1) := by decide +kernel
theorem dX7_view_1 : decode cX7_view 1 = .ok (.iload_n 1, 1) := by decide +kernel
theorem dX7_view_2 : decode cX7_view 2 = .ok (.invokevirtual 285, 3) := by decide +kernel
theorem dX7_view_5 : decode cX7_view 5 = .ok (.ifCond .eq 12, 3) := by decide +kernel
theorem dX7_view_8 : decode cX7_view 8 = .ok (.aload_n 0, 1) := by decide +kernel
theorem dX7_view_9 : decode cX7_view 9 = .ok (.iload_n 2, 1) := by decide +kernel
theorem dX7_view_10 : decode cX7_view 10 = .ok (.iload_n 3, 1) := by decide +kernel
theorem dX7_view_11 : decode cX7_view 11 = .ok (.invokevirtual 281, 3) := by decide +kernel
theorem dX7_view_14 : decode cX7_view 14 = .ok (.ifCond .ne 7, 3) := by decide +kernel
theorem dX7_view_17 : decode cX7_view 17 = .ok (.ldc_w 284, 3) := by decide +kernel
theorem dX7_view_20 : decode cX7_view 20 = .ok (.ireturn, 1) := by decide +kernel
theorem dX7_view_21 : decode cX7_view 21 = .ok (.aload_n 0, 1) := by decide +kernel
theorem dX7_view_22 : decode cX7_view 22 = .ok (.iload_n 1, 1) := by decide +kernel
theorem dX7_view_23 : decode cX7_view 23 = .ok (.invokevirtual 293, 3) := by decide +kernel
theorem dX7_view_26 : decode cX7_view 26 = .ok (.istore 4, 2) := by decide +kernel
theorem dX7_view_28 : decode cX7_view 28 = .ok (.aload_n 0, 1) := by decide +kernel
theorem dX7_view_29 : decode cX7_view 29 = .ok (.getfield 41, 3) := by decide +kernel
theorem dX7_view_32 : decode cX7_view 32 = .ok (.aload_n 0, 1) := by decide +kernel
theorem dX7_view_33 : decode cX7_view 33 = .ok (.getfield 90, 3) := by decide +kernel
theorem dX7_view_36 : decode cX7_view 36 = .ok (.iload_n 3, 1) := by decide +kernel
theorem dX7_view_37 : decode cX7_view 37 = .ok (.imul, 1) := by decide +kernel
theorem dX7_view_38 : decode cX7_view 38 = .ok (.iload_n 2, 1) := by decide +kernel
theorem dX7_view_39 : decode cX7_view 39 = .ok (.iadd, 1) := by decide +kernel
theorem dX7_view_40 : decode cX7_view 40 = .ok (.iaload, 1) := by decide +kernel
theorem dX7_view_41 : decode cX7_view 41 = .ok (.istore 5, 2) := by decide +kernel
theorem dX7_view_43 : decode cX7_view 43 = .ok (.aload_n 0, 1) := by decide +kernel
theorem dX7_view_44 : decode cX7_view 44 = .ok (.getfield 41, 3) := by decide +kernel
theorem dX7_view_47 : decode cX7_view 47 = .ok (.aload_n 0, 1) := by decide +kernel
theorem dX7_view_48 : decode cX7_view 48 = .ok (.getfield 90, 3) := by decide +kernel
theorem dX7_view_51 : decode cX7_view 51 = .ok (.iload_n 3, 1) := by decide +kernel
theorem dX7_view_52 : decode cX7_view 52 = .ok (.imul, 1) := by decide +kernel
theorem dX7_view_53 : decode cX7_view 53 = .ok (.iload_n 2, 1) := by decide +kernel
theorem dX7_view_54 : decode cX7_view 54 = .ok (.iadd, 1) := by decide +kernel
theorem dX7_view_55 : decode cX7_view 55 = .ok (.iconst 0, 1) := by decide +kernel
theorem dX7_view_56 : decode cX7_view 56 = .ok (.iastore, 1) := by decide +kernel
theorem dX7_view_57 : decode cX7_view 57 = .ok (.aload_n 0, 1) := by decide +kernel
theorem dX7_view_58 : decode cX7_view 58 = .ok (.iload_n 1, 1) := by decide +kernel
theorem dX7_view_59 : decode cX7_view 59 = .ok (.invokevirtual 293, 3) := by decide +kernel
theorem dX7_view_62 : decode cX7_view 62 = .ok (.istore 6, 2) := by decide +kernel
theorem dX7_view_64 : decode cX7_view 64 = .ok (.aload_n 0, 1) := by decide +kernel
theorem dX7_view_65 : decode cX7_view 65 = .ok (.getfield 41, 3) := by decide +kernel
theorem dX7_view_68 : decode cX7_view 68 = .ok (.aload_n 0, 1) := by decide +kernel
theorem dX7_view_69 : decode cX7_view 69 = .ok (.getfield 90, 3) := by decide +kernel
theorem dX7_view_72 : decode cX7_view 72 = .ok (.iload_n 3, 1) := by decide +kernel
theorem dX7_view_73 : decode cX7_view 73 = .ok (.imul, 1) := by decide +kernel
theorem dX7_view_74 : decode cX7_view 74 = .ok (.iload_n 2, 1) := by decide +kernel
theorem dX7_view_75 : decode cX7_view 75 = .ok (.iadd, 1) := by decide +kernel
theorem dX7_view_76 : decode cX7_view 76 = .ok (.iload 5, 2) := by decide +kernel
theorem dX7_view_78 : decode cX7_view 78 = .ok (.iastore, 1) := by decide +kernel
theorem dX7_view_79 : decode cX7_view 79 = .ok (.iload 6, 2) := by decide +kernel
theorem dX7_view_81 : decode cX7_view 81 = .ok (.iload 4, 2) := by decide +kernel
theorem dX7_view_83 : decode cX7_view 83 = .ok (.isub, 1) := by decide +kernel
theorem dX7_view_84 : decode cX7_view 84 = .ok (.ireturn, 1) := by decide +kernel
theorem dX7_builds_0 : decode cX7_builds 0 = .ok (.iconst 0, 1) := by decide +kernel
theorem dX7_builds_1 : decode cX7_builds 1 = .ok (.istore_n 3, 1) := by decide +kernel
theorem dX7_builds_2 : decode cX7_builds 2 = .ok (.iload_n 2, 1) := by decide +kernel
theorem dX7_builds_3 : decode cX7_builds 3 = .ok (.istore 4, 2) := by decide +kernel
theorem dX7_builds_5 : decode cX7_builds 5 = .ok (.iload 4, 2) := by decide +kernel
theorem dX7_builds_7 : decode cX7_builds 7 = .ok (.iload_n 1, 1) := by decide +kernel
theorem dX7_builds_8 : decode cX7_builds 8 = .ok (.if_icmp .ge 18, 3) := by decide +kernel
theorem dX7_builds_11 : decode cX7_builds 11 = .ok (.iload_n 3, 1) := by decide +kernel
theorem dX7_builds_12 : decode cX7_builds 12 = .ok (.iload_n 0, 1) := by decide +kernel
theorem dX7_builds_13 : decode cX7_builds 13 = .ok (.iload 4, 2) := by decide +kernel
theorem dX7_builds_15 : decode cX7_builds 15 = .ok (.ishr, 1) := by decide +kernel
theorem dX7_builds_16 : decode cX7_builds 16 = .ok (.iconst 1, 1) := by decide +kernel
theorem dX7_builds_17 : decode cX7_builds 17 = .ok (.iand, 1) := by decide +kernel
theorem dX7_builds_18 : decode cX7_builds 18 = .ok (.iadd, 1) := by decide +kernel
theorem dX7_builds_19 : decode cX7_builds 19 = .ok (.istore_n 3, 1) := by decide +kernel
theorem dX7_builds_20 : decode cX7_builds 20 = .ok (.iinc 4 2, 3) := by decide +kernel
theorem dX7_builds_23 : decode cX7_builds 23 = .ok (.goto (-18), 3) := by decide +kernel
theorem dX7_builds_26 : decode cX7_builds 26 = .ok (.iload_n 3, 1) := by decide +kernel
theorem dX7_builds_27 : decode cX7_builds 27 = .ok (.ireturn, 1) := by decide +kernel
set_option maxRecDepth 20000 in
theorem ggX7_endOf_X7_builds : GoodIn wsX7_endOf wsX7_builds := goodIn_r _ [6] (by decide +kernel) (by decide +kernel)
set_option maxRecDepth 20000 in
theorem gX7_endOf_X7_builds : GoodIn wsX7_endOf (va_wsS RX7 321 yX7_builds wsX7_builds) := goodIn_app (goodIn_of _ (by decide +kernel)) ggX7_endOf_X7_builds
set_option maxRecDepth 20000 in
theorem ggX7_endOf_X7_shareOf : GoodIn wsX7_endOf wsX7_shareOf := goodIn_r _ [10, 11, 12, 13, 14, 5, 15, 16, 17, 18, 19, 20, 21, 22, 23, 24, 25, 26, 27, 28, 29, 30, 31, 32, 33, 34, 35, 36, 37, 38, 39, 40, 41, 42, 43, 44, 45, 46, 47, 48, 49, 50, 51, 52, 53, 1, 54, 55, 56, 57, 58, 59, 60, 61, 62, 63, 64, 65, 66, 67, 68, 69, 70, 71, 72, 73, 74, 75, 76, 77, 78, 79, 80, 81, 82, 83, 84, 85, 86, 87, 88, 89, 90, 91, 92, 93, 94, 95, 96, 97, 98, 99, 100, 101, 102, 103, 104, 105, 106, 107, 108, 109, 110, 111, 112, 113, 114, 115, 116, 117, 118, 119, 120, 121, 122] (by decide +kernel) (by decide +kernel)
set_option maxRecDepth 20000 in
theorem gX7_endOf_X7_shareOf : GoodIn wsX7_endOf (wsV RX7 293 RX7 yX7_shareOf wsX7_shareOf) := goodIn_app (goodIn_of _ (by decide +kernel)) ggX7_endOf_X7_shareOf
theorem dX7_endOf_0 : decode cX7_endOf 0 = .ok (.iload 5, 2) := by decide +kernel
theorem dX7_endOf_2 : decode cX7_endOf 2 = .ok (.iload_n 3, 1) := by decide +kernel
theorem dX7_endOf_3 : decode cX7_endOf 3 = .ok (.iconst 0, 1) := by decide +kernel
theorem dX7_endOf_4 : decode cX7_endOf 4 = .ok (.invokestatic 321, 3) := by decide +kernel
theorem dX7_endOf_7 : decode cX7_endOf 7 = .ok (.istore 6, 2) := by decide +kernel
theorem dX7_endOf_9 : decode cX7_endOf 9 = .ok (.iload 5, 2) := by decide +kernel
theorem dX7_endOf_11 : decode cX7_endOf 11 = .ok (.iload_n 3, 1) := by decide +kernel
theorem dX7_endOf_12 : decode cX7_endOf 12 = .ok (.iconst 1, 1) := by decide +kernel
theorem dX7_endOf_13 : decode cX7_endOf 13 = .ok (.invokestatic 321, 3) := by decide +kernel
theorem dX7_endOf_16 : decode cX7_endOf 16 = .ok (.istore 7, 2) := by decide +kernel
theorem dX7_endOf_18 : decode cX7_endOf 18 = .ok (.aload_n 0, 1) := by decide +kernel
theorem dX7_endOf_19 : decode cX7_endOf 19 = .ok (.getfield 35, 3) := by decide +kernel
theorem dX7_endOf_22 : decode cX7_endOf 22 = .ok (.iload_n 1, 1) := by decide +kernel
theorem dX7_endOf_23 : decode cX7_endOf 23 = .ok (.iaload, 1) := by decide +kernel
theorem dX7_endOf_24 : decode cX7_endOf 24 = .ok (.iload 6, 2) := by decide +kernel
theorem dX7_endOf_26 : decode cX7_endOf 26 = .ok (.iadd, 1) := by decide +kernel
theorem dX7_endOf_27 : decode cX7_endOf 27 = .ok (.bipush 9, 2) := by decide +kernel
theorem dX7_endOf_29 : decode cX7_endOf 29 = .ok (.if_icmp .gt 17, 3) := by decide +kernel
theorem dX7_endOf_32 : decode cX7_endOf 32 = .ok (.aload_n 0, 1) := by decide +kernel
theorem dX7_endOf_33 : decode cX7_endOf 33 = .ok (.getfield 35, 3) := by decide +kernel
theorem dX7_endOf_36 : decode cX7_endOf 36 = .ok (.iload_n 2, 1) := by decide +kernel
theorem dX7_endOf_37 : decode cX7_endOf 37 = .ok (.iaload, 1) := by decide +kernel
theorem dX7_endOf_38 : decode cX7_endOf 38 = .ok (.iload 7, 2) := by decide +kernel
theorem dX7_endOf_40 : decode cX7_endOf 40 = .ok (.iadd, 1) := by decide +kernel
theorem dX7_endOf_41 : decode cX7_endOf 41 = .ok (.bipush 9, 2) := by decide +kernel
theorem dX7_endOf_43 : decode cX7_endOf 43 = .ok (.if_icmp .le 5, 3) := by decide +kernel
theorem dX7_endOf_46 : decode cX7_endOf 46 = .ok (.iconst 0, 1) := by decide +kernel
theorem dX7_endOf_47 : decode cX7_endOf 47 = .ok (.ireturn, 1) := by decide +kernel
theorem dX7_endOf_48 : decode cX7_endOf 48 = .ok (.aload_n 0, 1) := by decide +kernel
theorem dX7_endOf_49 : decode cX7_endOf 49 = .ok (.getfield 35, 3) := by decide +kernel
theorem dX7_endOf_52 : decode cX7_endOf 52 = .ok (.iload_n 1, 1) := by decide +kernel
theorem dX7_endOf_53 : decode cX7_endOf 53 = .ok (.dup2, 1) := by decide +kernel
theorem dX7_endOf_54 : decode cX7_endOf 54 = .ok (.iaload, 1) := by decide +kernel
theorem dX7_endOf_55 : decode cX7_endOf 55 = .ok (.iload 6, 2) := by decide +kernel
theorem dX7_endOf_57 : decode cX7_endOf 57 = .ok (.iadd, 1) := by decide +kernel
theorem dX7_endOf_58 : decode cX7_endOf 58 = .ok (.iastore, 1) := by decide +kernel
theorem dX7_endOf_59 : decode cX7_endOf 59 = .ok (.aload_n 0, 1) := by decide +kernel
theorem dX7_endOf_60 : decode cX7_endOf 60 = .ok (.getfield 35, 3) := by decide +kernel
theorem dX7_endOf_63 : decode cX7_endOf 63 = .ok (.iload_n 2, 1) := by decide +kernel
theorem dX7_endOf_64 : decode cX7_endOf 64 = .ok (.dup2, 1) := by decide +kernel
theorem dX7_endOf_65 : decode cX7_endOf 65 = .ok (.iaload, 1) := by decide +kernel
theorem dX7_endOf_66 : decode cX7_endOf 66 = .ok (.iload 7, 2) := by decide +kernel
theorem dX7_endOf_68 : decode cX7_endOf 68 = .ok (.iadd, 1) := by decide +kernel
theorem dX7_endOf_69 : decode cX7_endOf 69 = .ok (.iastore, 1) := by decide +kernel
theorem dX7_endOf_70 : decode cX7_endOf 70 = .ok (.aload_n 0, 1) := by decide +kernel
theorem dX7_endOf_71 : decode cX7_endOf 71 = .ok (.iload_n 1, 1) := by decide +kernel
theorem dX7_endOf_72 : decode cX7_endOf 72 = .ok (.invokevirtual 293, 3) := by decide +kernel
theorem dX7_endOf_75 : decode cX7_endOf 75 = .ok (.aload_n 0, 1) := by decide +kernel
theorem dX7_endOf_76 : decode cX7_endOf 76 = .ok (.iload_n 2, 1) := by decide +kernel
theorem dX7_endOf_77 : decode cX7_endOf 77 = .ok (.invokevirtual 293, 3) := by decide +kernel
theorem dX7_endOf_80 : decode cX7_endOf 80 = .ok (.isub, 1) := by decide +kernel
theorem dX7_endOf_81 : decode cX7_endOf 81 = .ok (.iload 4, 2) := by decide +kernel
theorem dX7_endOf_83 : decode cX7_endOf 83 = .ok (.imul, 1) := by decide +kernel
theorem dX7_endOf_84 : decode cX7_endOf 84 = .ok (.iload 6, 2) := by decide +kernel
theorem dX7_endOf_86 : decode cX7_endOf 86 = .ok (.iload 7, 2) := by decide +kernel
theorem dX7_endOf_88 : decode cX7_endOf 88 = .ok (.isub, 1) := by decide +kernel
theorem dX7_endOf_89 : decode cX7_endOf 89 = .ok (.aload_n 0, 1) := by decide +kernel
theorem dX7_endOf_90 : decode cX7_endOf 90 = .ok (.getfield 32, 3) := by decide +kernel
theorem dX7_endOf_93 : decode cX7_endOf 93 = .ok (.imul, 1) := by decide +kernel
theorem dX7_endOf_94 : decode cX7_endOf 94 = .ok (.isub, 1) := by decide +kernel
theorem dX7_endOf_95 : decode cX7_endOf 95 = .ok (.istore 8, 2) := by decide +kernel
theorem dX7_endOf_97 : decode cX7_endOf 97 = .ok (.aload_n 0, 1) := by decide +kernel
theorem dX7_endOf_98 : decode cX7_endOf 98 = .ok (.getfield 35, 3) := by decide +kernel
theorem dX7_endOf_101 : decode cX7_endOf 101 = .ok (.iload_n 1, 1) := by decide +kernel
theorem dX7_endOf_102 : decode cX7_endOf 102 = .ok (.dup2, 1) := by decide +kernel
theorem dX7_endOf_103 : decode cX7_endOf 103 = .ok (.iaload, 1) := by decide +kernel
theorem dX7_endOf_104 : decode cX7_endOf 104 = .ok (.iload 6, 2) := by decide +kernel
theorem dX7_endOf_106 : decode cX7_endOf 106 = .ok (.isub, 1) := by decide +kernel
theorem dX7_endOf_107 : decode cX7_endOf 107 = .ok (.iastore, 1) := by decide +kernel
theorem dX7_endOf_108 : decode cX7_endOf 108 = .ok (.aload_n 0, 1) := by decide +kernel
theorem dX7_endOf_109 : decode cX7_endOf 109 = .ok (.getfield 35, 3) := by decide +kernel
theorem dX7_endOf_112 : decode cX7_endOf 112 = .ok (.iload_n 2, 1) := by decide +kernel
theorem dX7_endOf_113 : decode cX7_endOf 113 = .ok (.dup2, 1) := by decide +kernel
theorem dX7_endOf_114 : decode cX7_endOf 114 = .ok (.iaload, 1) := by decide +kernel
theorem dX7_endOf_115 : decode cX7_endOf 115 = .ok (.iload 7, 2) := by decide +kernel
theorem dX7_endOf_117 : decode cX7_endOf 117 = .ok (.isub, 1) := by decide +kernel
theorem dX7_endOf_118 : decode cX7_endOf 118 = .ok (.iastore, 1) := by decide +kernel
theorem dX7_endOf_119 : decode cX7_endOf 119 = .ok (.iload 8, 2) := by decide +kernel
theorem dX7_endOf_121 : decode cX7_endOf 121 = .ok (.ireturn, 1) := by decide +kernel
set_option maxRecDepth 20000 in
theorem ggX7_towers_X7_isMan : GoodIn wsX7_towers wsX7_isMan := goodIn_r _ [11, 12, 13, 14, 10, 15, 88, 89, 90, 91, 92, 93, 94, 95, 96, 97, 98, 99, 100, 101, 102, 103, 104, 105, 106, 107, 108, 109, 110, 111, 112, 113, 114, 115, 116, 117, 118, 119, 120, 121, 122, 123, 124, 125, 126, 127, 128, 129, 130, 131, 132, 133, 134, 135] (by decide +kernel) (by decide +kernel)
set_option maxRecDepth 20000 in
theorem gX7_towers_X7_isMan : GoodIn wsX7_towers (wsV RX7 285 RX7 yX7_isMan wsX7_isMan) := goodIn_app (goodIn_of _ (by decide +kernel)) ggX7_towers_X7_isMan
set_option maxRecDepth 20000 in
theorem ggX7_towers_X7_in : GoodIn wsX7_towers wsX7_in := goodIn_r _ [15] (by decide +kernel) (by decide +kernel)
set_option maxRecDepth 20000 in
theorem gX7_towers_X7_in : GoodIn wsX7_towers (va_wsS RX7 93 yX7_in wsX7_in) := goodIn_app (goodIn_of _ (by decide +kernel)) ggX7_towers_X7_in
set_option maxRecDepth 20000 in
theorem ggX7_towers_X7_endOf : GoodIn wsX7_towers wsX7_endOf := goodIn_r _ [19, 6, 20, 21, 22, 10, 23, 24, 25, 26, 27, 28, 29, 30, 31, 32, 33, 34, 35, 36, 37, 38, 39, 40, 41, 42, 12, 43, 44, 45, 46, 47, 48, 49, 13, 14, 15, 50, 51, 52, 53, 54, 55, 56, 57, 58, 59, 60, 61, 62, 63, 64, 65, 66, 67, 68, 69, 70, 71, 72, 73, 74, 75, 76, 77, 78, 79, 80, 81, 82, 83, 84, 85, 86, 87, 88, 89, 90, 91, 92, 93, 94, 95, 96, 97, 98, 99, 100, 101, 102, 103, 104, 105, 106, 107, 108, 109, 110, 111, 112, 113, 114, 115, 116, 117, 118, 119, 120, 121, 122, 123, 124, 125, 126, 127, 128, 129, 130, 131, 132, 133, 134, 135] (by decide +kernel) (by decide +kernel)
set_option maxRecDepth 20000 in
theorem gX7_towers_X7_endOf : GoodIn wsX7_towers (wsV RX7 326 RX7 yX7_endOf wsX7_endOf) := goodIn_app (goodIn_of _ (by decide +kernel)) ggX7_towers_X7_endOf
set_option maxRecDepth 20000 in
theorem ggX7_towers_X7_builds : GoodIn wsX7_towers wsX7_builds := goodIn_r _ [23] (by decide +kernel) (by decide +kernel)
set_option maxRecDepth 20000 in
theorem gX7_towers_X7_builds : GoodIn wsX7_towers (va_wsS RX7 321 yX7_builds wsX7_builds) := goodIn_app (goodIn_of _ (by decide +kernel)) ggX7_towers_X7_builds
theorem dX7_towers_0 : decode cX7_towers 0 = .ok (.aload_n 0, 1) := by decide +kernel
theorem dX7_towers_1 : decode cX7_towers 1 = .ok (.iload_n 1, 1) := by decide +kernel
theorem dX7_towers_2 : decode cX7_towers 2 = .ok (.invokevirtual 285, 3) := by decide +kernel
theorem dX7_towers_5 : decode cX7_towers 5 = .ok (.ifCond .eq 16, 3) := by decide +kernel
theorem dX7_towers_8 : decode cX7_towers 8 = .ok (.aload_n 0, 1) := by decide +kernel
theorem dX7_towers_9 : decode cX7_towers 9 = .ok (.iload_n 2, 1) := by decide +kernel
theorem dX7_towers_10 : decode cX7_towers 10 = .ok (.invokevirtual 285, 3) := by decide +kernel
theorem dX7_towers_13 : decode cX7_towers 13 = .ok (.ifCond .eq 8, 3) := by decide +kernel
theorem dX7_towers_16 : decode cX7_towers 16 = .ok (.iload_n 1, 1) := by decide +kernel
theorem dX7_towers_17 : decode cX7_towers 17 = .ok (.iload_n 2, 1) := by decide +kernel
theorem dX7_towers_18 : decode cX7_towers 18 = .ok (.if_icmp .ne 7, 3) := by decide +kernel
theorem dX7_towers_21 : decode cX7_towers 21 = .ok (.ldc_w 284, 3) := by decide +kernel
theorem dX7_towers_24 : decode cX7_towers 24 = .ok (.ireturn, 1) := by decide +kernel
theorem dX7_towers_25 : decode cX7_towers 25 = .ok (.iload_n 3, 1) := by decide +kernel
theorem dX7_towers_26 : decode cX7_towers 26 = .ok (.i2l, 1) := by decide +kernel
theorem dX7_towers_27 : decode cX7_towers 27 = .ok (.lconst 0, 1) := by decide +kernel
theorem dX7_towers_28 : decode cX7_towers 28 = .ok (.ldc2_w 324, 3) := by decide +kernel
theorem dX7_towers_31 : decode cX7_towers 31 = .ok (.invokestatic 93, 3) := by decide +kernel
theorem dX7_towers_34 : decode cX7_towers 34 = .ok (.ifCond .eq 27, 3) := by decide +kernel
theorem dX7_towers_37 : decode cX7_towers 37 = .ok (.iload 4, 2) := by decide +kernel
theorem dX7_towers_39 : decode cX7_towers 39 = .ok (.i2l, 1) := by decide +kernel
theorem dX7_towers_40 : decode cX7_towers 40 = .ok (.lconst 1, 1) := by decide +kernel
theorem dX7_towers_41 : decode cX7_towers 41 = .ok (.ldc2_w 303, 3) := by decide +kernel
theorem dX7_towers_44 : decode cX7_towers 44 = .ok (.invokestatic 93, 3) := by decide +kernel
theorem dX7_towers_47 : decode cX7_towers 47 = .ok (.ifCond .eq 14, 3) := by decide +kernel
theorem dX7_towers_50 : decode cX7_towers 50 = .ok (.iload 5, 2) := by decide +kernel
theorem dX7_towers_52 : decode cX7_towers 52 = .ok (.i2l, 1) := by decide +kernel
theorem dX7_towers_53 : decode cX7_towers 53 = .ok (.lconst 0, 1) := by decide +kernel
theorem dX7_towers_54 : decode cX7_towers 54 = .ok (.lconst 1, 1) := by decide +kernel
theorem dX7_towers_55 : decode cX7_towers 55 = .ok (.invokestatic 93, 3) := by decide +kernel
theorem dX7_towers_58 : decode cX7_towers 58 = .ok (.ifCond .ne 6, 3) := by decide +kernel
theorem dX7_towers_61 : decode cX7_towers 61 = .ok (.ldc 108, 2) := by decide +kernel
theorem dX7_towers_63 : decode cX7_towers 63 = .ok (.ireturn, 1) := by decide +kernel
theorem dX7_towers_64 : decode cX7_towers 64 = .ok (.iconst 0, 1) := by decide +kernel
theorem dX7_towers_65 : decode cX7_towers 65 = .ok (.istore 6, 2) := by decide +kernel
theorem dX7_towers_67 : decode cX7_towers 67 = .ok (.iload 6, 2) := by decide +kernel
theorem dX7_towers_69 : decode cX7_towers 69 = .ok (.iconst 1, 1) := by decide +kernel
theorem dX7_towers_70 : decode cX7_towers 70 = .ok (.iload_n 3, 1) := by decide +kernel
theorem dX7_towers_71 : decode cX7_towers 71 = .ok (.ishl, 1) := by decide +kernel
theorem dX7_towers_72 : decode cX7_towers 72 = .ok (.if_icmp .ge 27, 3) := by decide +kernel
theorem dX7_towers_75 : decode cX7_towers 75 = .ok (.aload_n 0, 1) := by decide +kernel
theorem dX7_towers_76 : decode cX7_towers 76 = .ok (.getfield 68, 3) := by decide +kernel
theorem dX7_towers_79 : decode cX7_towers 79 = .ok (.iload 6, 2) := by decide +kernel
theorem dX7_towers_81 : decode cX7_towers 81 = .ok (.aload_n 0, 1) := by decide +kernel
theorem dX7_towers_82 : decode cX7_towers 82 = .ok (.iload_n 1, 1) := by decide +kernel
theorem dX7_towers_83 : decode cX7_towers 83 = .ok (.iload_n 2, 1) := by decide +kernel
theorem dX7_towers_84 : decode cX7_towers 84 = .ok (.iload_n 3, 1) := by decide +kernel
theorem dX7_towers_85 : decode cX7_towers 85 = .ok (.iload 4, 2) := by decide +kernel
theorem dX7_towers_87 : decode cX7_towers 87 = .ok (.iload 6, 2) := by decide +kernel
theorem dX7_towers_89 : decode cX7_towers 89 = .ok (.invokevirtual 326, 3) := by decide +kernel
theorem dX7_towers_92 : decode cX7_towers 92 = .ok (.iastore, 1) := by decide +kernel
theorem dX7_towers_93 : decode cX7_towers 93 = .ok (.iinc 6 1, 3) := by decide +kernel
theorem dX7_towers_96 : decode cX7_towers 96 = .ok (.goto (-29), 3) := by decide +kernel
theorem dX7_towers_99 : decode cX7_towers 99 = .ok (.iconst (-1), 1) := by decide +kernel
theorem dX7_towers_100 : decode cX7_towers 100 = .ok (.istore 6, 2) := by decide +kernel
theorem dX7_towers_102 : decode cX7_towers 102 = .ok (.iload_n 3, 1) := by decide +kernel
theorem dX7_towers_103 : decode cX7_towers 103 = .ok (.iconst 1, 1) := by decide +kernel
theorem dX7_towers_104 : decode cX7_towers 104 = .ok (.isub, 1) := by decide +kernel
theorem dX7_towers_105 : decode cX7_towers 105 = .ok (.istore 7, 2) := by decide +kernel
theorem dX7_towers_107 : decode cX7_towers 107 = .ok (.iload 7, 2) := by decide +kernel
theorem dX7_towers_109 : decode cX7_towers 109 = .ok (.ifCond .lt 161, 3) := by decide +kernel
theorem dX7_towers_112 : decode cX7_towers 112 = .ok (.iload 7, 2) := by decide +kernel
theorem dX7_towers_114 : decode cX7_towers 114 = .ok (.iconst 2, 1) := by decide +kernel
theorem dX7_towers_115 : decode cX7_towers 115 = .ok (.irem, 1) := by decide +kernel
theorem dX7_towers_116 : decode cX7_towers 116 = .ok (.ifCond .ne 7, 3) := by decide +kernel
theorem dX7_towers_119 : decode cX7_towers 119 = .ok (.iload_n 1, 1) := by decide +kernel
theorem dX7_towers_120 : decode cX7_towers 120 = .ok (.goto 4, 3) := by decide +kernel
theorem dX7_towers_123 : decode cX7_towers 123 = .ok (.iload_n 2, 1) := by decide +kernel
theorem dX7_towers_124 : decode cX7_towers 124 = .ok (.istore 8, 2) := by decide +kernel
theorem dX7_towers_126 : decode cX7_towers 126 = .ok (.iconst 0, 1) := by decide +kernel
theorem dX7_towers_127 : decode cX7_towers 127 = .ok (.istore 9, 2) := by decide +kernel
theorem dX7_towers_129 : decode cX7_towers 129 = .ok (.iload 9, 2) := by decide +kernel
theorem dX7_towers_131 : decode cX7_towers 131 = .ok (.iconst 1, 1) := by decide +kernel
theorem dX7_towers_132 : decode cX7_towers 132 = .ok (.iload 7, 2) := by decide +kernel
theorem dX7_towers_134 : decode cX7_towers 134 = .ok (.ishl, 1) := by decide +kernel
theorem dX7_towers_135 : decode cX7_towers 135 = .ok (.if_icmp .ge 129, 3) := by decide +kernel
theorem dX7_towers_138 : decode cX7_towers 138 = .ok (.aload_n 0, 1) := by decide +kernel
theorem dX7_towers_139 : decode cX7_towers 139 = .ok (.getfield 68, 3) := by decide +kernel
theorem dX7_towers_142 : decode cX7_towers 142 = .ok (.iload 9, 2) := by decide +kernel
theorem dX7_towers_144 : decode cX7_towers 144 = .ok (.iaload, 1) := by decide +kernel
theorem dX7_towers_145 : decode cX7_towers 145 = .ok (.istore 10, 2) := by decide +kernel
theorem dX7_towers_147 : decode cX7_towers 147 = .ok (.aload_n 0, 1) := by decide +kernel
theorem dX7_towers_148 : decode cX7_towers 148 = .ok (.getfield 68, 3) := by decide +kernel
theorem dX7_towers_151 : decode cX7_towers 151 = .ok (.iload 9, 2) := by decide +kernel
theorem dX7_towers_153 : decode cX7_towers 153 = .ok (.iconst 1, 1) := by decide +kernel
theorem dX7_towers_154 : decode cX7_towers 154 = .ok (.iload 7, 2) := by decide +kernel
theorem dX7_towers_156 : decode cX7_towers 156 = .ok (.ishl, 1) := by decide +kernel
theorem dX7_towers_157 : decode cX7_towers 157 = .ok (.ior, 1) := by decide +kernel
theorem dX7_towers_158 : decode cX7_towers 158 = .ok (.iaload, 1) := by decide +kernel
theorem dX7_towers_159 : decode cX7_towers 159 = .ok (.istore 11, 2) := by decide +kernel
theorem dX7_towers_161 : decode cX7_towers 161 = .ok (.aload_n 0, 1) := by decide +kernel
theorem dX7_towers_162 : decode cX7_towers 162 = .ok (.getfield 35, 3) := by decide +kernel
theorem dX7_towers_165 : decode cX7_towers 165 = .ok (.iload 8, 2) := by decide +kernel
theorem dX7_towers_167 : decode cX7_towers 167 = .ok (.iaload, 1) := by decide +kernel
theorem dX7_towers_168 : decode cX7_towers 168 = .ok (.iload 9, 2) := by decide +kernel
theorem dX7_towers_170 : decode cX7_towers 170 = .ok (.iload 7, 2) := by decide +kernel
theorem dX7_towers_172 : decode cX7_towers 172 = .ok (.iload 7, 2) := by decide +kernel
theorem dX7_towers_174 : decode cX7_towers 174 = .ok (.iconst 2, 1) := by decide +kernel
theorem dX7_towers_175 : decode cX7_towers 175 = .ok (.irem, 1) := by decide +kernel
theorem dX7_towers_176 : decode cX7_towers 176 = .ok (.invokestatic 321, 3) := by decide +kernel
theorem dX7_towers_179 : decode cX7_towers 179 = .ok (.iadd, 1) := by decide +kernel
theorem dX7_towers_180 : decode cX7_towers 180 = .ok (.bipush 9, 2) := by decide +kernel
theorem dX7_towers_182 : decode cX7_towers 182 = .ok (.if_icmp .ge 7, 3) := by decide +kernel
theorem dX7_towers_185 : decode cX7_towers 185 = .ok (.iconst 1, 1) := by decide +kernel
theorem dX7_towers_186 : decode cX7_towers 186 = .ok (.goto 4, 3) := by decide +kernel
theorem dX7_towers_189 : decode cX7_towers 189 = .ok (.iconst 0, 1) := by decide +kernel
theorem dX7_towers_190 : decode cX7_towers 190 = .ok (.istore 12, 2) := by decide +kernel
theorem dX7_towers_192 : decode cX7_towers 192 = .ok (.iload 12, 2) := by decide +kernel
theorem dX7_towers_194 : decode cX7_towers 194 = .ok (.ifCond .eq 30, 3) := by decide +kernel
theorem dX7_towers_197 : decode cX7_towers 197 = .ok (.iload 8, 2) := by decide +kernel
theorem dX7_towers_199 : decode cX7_towers 199 = .ok (.iload_n 1, 1) := by decide +kernel
theorem dX7_towers_200 : decode cX7_towers 200 = .ok (.if_icmp .ne 13, 3) := by decide +kernel
theorem dX7_towers_203 : decode cX7_towers 203 = .ok (.iload 11, 2) := by decide +kernel
theorem dX7_towers_205 : decode cX7_towers 205 = .ok (.iload 10, 2) := by decide +kernel
theorem dX7_towers_207 : decode cX7_towers 207 = .ok (.if_icmp .le 17, 3) := by decide +kernel
theorem dX7_towers_210 : decode cX7_towers 210 = .ok (.goto 10, 3) := by decide +kernel
theorem dX7_towers_213 : decode cX7_towers 213 = .ok (.iload 11, 2) := by decide +kernel
theorem dX7_towers_215 : decode cX7_towers 215 = .ok (.iload 10, 2) := by decide +kernel
theorem dX7_towers_217 : decode cX7_towers 217 = .ok (.if_icmp .ge 7, 3) := by decide +kernel
theorem dX7_towers_220 : decode cX7_towers 220 = .ok (.iconst 1, 1) := by decide +kernel
theorem dX7_towers_221 : decode cX7_towers 221 = .ok (.goto 4, 3) := by decide +kernel
theorem dX7_towers_224 : decode cX7_towers 224 = .ok (.iconst 0, 1) := by decide +kernel
theorem dX7_towers_225 : decode cX7_towers 225 = .ok (.istore 13, 2) := by decide +kernel
theorem dX7_towers_227 : decode cX7_towers 227 = .ok (.aload_n 0, 1) := by decide +kernel
theorem dX7_towers_228 : decode cX7_towers 228 = .ok (.getfield 68, 3) := by decide +kernel
theorem dX7_towers_231 : decode cX7_towers 231 = .ok (.iload 9, 2) := by decide +kernel
theorem dX7_towers_233 : decode cX7_towers 233 = .ok (.iload 13, 2) := by decide +kernel
theorem dX7_towers_235 : decode cX7_towers 235 = .ok (.ifCond .eq 8, 3) := by decide +kernel
theorem dX7_towers_238 : decode cX7_towers 238 = .ok (.iload 11, 2) := by decide +kernel
theorem dX7_towers_240 : decode cX7_towers 240 = .ok (.goto 5, 3) := by decide +kernel
theorem dX7_towers_243 : decode cX7_towers 243 = .ok (.iload 10, 2) := by decide +kernel
theorem dX7_towers_245 : decode cX7_towers 245 = .ok (.iastore, 1) := by decide +kernel
theorem dX7_towers_246 : decode cX7_towers 246 = .ok (.iload 13, 2) := by decide +kernel
theorem dX7_towers_248 : decode cX7_towers 248 = .ok (.ifCond .eq 7, 3) := by decide +kernel
theorem dX7_towers_251 : decode cX7_towers 251 = .ok (.iconst 1, 1) := by decide +kernel
theorem dX7_towers_252 : decode cX7_towers 252 = .ok (.goto 4, 3) := by decide +kernel
theorem dX7_towers_255 : decode cX7_towers 255 = .ok (.iconst 0, 1) := by decide +kernel
theorem dX7_towers_256 : decode cX7_towers 256 = .ok (.istore 6, 2) := by decide +kernel
theorem dX7_towers_258 : decode cX7_towers 258 = .ok (.iinc 9 1, 3) := by decide +kernel
theorem dX7_towers_261 : decode cX7_towers 261 = .ok (.goto (-132), 3) := by decide +kernel
theorem dX7_towers_264 : decode cX7_towers 264 = .ok (.iinc 7 (-1), 3) := by decide +kernel
theorem dX7_towers_267 : decode cX7_towers 267 = .ok (.goto (-160), 3) := by decide +kernel
theorem dX7_towers_270 : decode cX7_towers 270 = .ok (.iload 5, 2) := by decide +kernel
theorem dX7_towers_272 : decode cX7_towers 272 = .ok (.ifCond .ne 12, 3) := by decide +kernel
theorem dX7_towers_275 : decode cX7_towers 275 = .ok (.aload_n 0, 1) := by decide +kernel
theorem dX7_towers_276 : decode cX7_towers 276 = .ok (.getfield 68, 3) := by decide +kernel
theorem dX7_towers_279 : decode cX7_towers 279 = .ok (.iconst 0, 1) := by decide +kernel
theorem dX7_towers_280 : decode cX7_towers 280 = .ok (.iaload, 1) := by decide +kernel
theorem dX7_towers_281 : decode cX7_towers 281 = .ok (.goto 5, 3) := by decide +kernel
theorem dX7_towers_284 : decode cX7_towers 284 = .ok (.iload 6, 2) := by decide +kernel
theorem dX7_towers_286 : decode cX7_towers 286 = .ok (.ireturn, 1) := by decide +kernel
set_option maxRecDepth 20000 in
theorem ggX7_boat_X7_isMan : GoodIn wsX7_boat wsX7_isMan := goodIn_r _ [11, 12, 13, 14, 10, 15, 83, 84, 85, 86, 87, 88, 89, 90, 91, 92, 93, 94, 95, 96, 97, 98, 99, 100, 101, 102, 103, 104, 105, 106, 107, 108, 109, 110, 111, 112, 113, 114, 115, 116, 117, 118, 119, 120, 121, 122, 123, 124, 125, 126, 127, 128, 129, 130] (by decide +kernel) (by decide +kernel)
set_option maxRecDepth 20000 in
theorem gX7_boat_X7_isMan : GoodIn wsX7_boat (wsV RX7 285 RX7 yX7_isMan wsX7_isMan) := goodIn_app (goodIn_of _ (by decide +kernel)) ggX7_boat_X7_isMan
set_option maxRecDepth 20000 in
theorem ggX7_boat_X7_in : GoodIn wsX7_boat wsX7_in := goodIn_r _ [15] (by decide +kernel) (by decide +kernel)
set_option maxRecDepth 20000 in
theorem gX7_boat_X7_in : GoodIn wsX7_boat (va_wsS RX7 93 yX7_in wsX7_in) := goodIn_app (goodIn_of _ (by decide +kernel)) ggX7_boat_X7_in
set_option maxRecDepth 20000 in
theorem ggX7_boat_X7_cells : GoodIn wsX7_boat wsX7_cells := goodIn_r _ [19, 5, 20, 83, 84, 85, 86, 87, 88, 89, 90, 91, 92, 93, 94, 95, 96, 97, 98, 99, 100, 101, 102, 103, 104, 105, 106, 107, 108, 109, 110, 111, 112, 113, 114, 115, 116, 117, 118, 119, 120, 121, 122, 123, 124, 125, 126, 127, 128, 129, 130] (by decide +kernel) (by decide +kernel)
set_option maxRecDepth 20000 in
theorem gX7_boat_X7_cells : GoodIn wsX7_boat (wsV RX7 232 RX7 yX7_cells wsX7_cells) := goodIn_app (goodIn_of _ (by decide +kernel)) ggX7_boat_X7_cells
set_option maxRecDepth 20000 in
theorem ggX7_boat_X7_hasOf : GoodIn wsX7_boat wsX7_hasOf := goodIn_r _ [24, 25, 5, 26, 27, 28, 10, 29, 12, 30, 31, 32, 33, 34, 35, 36, 13, 14, 15, 37, 38, 39, 40, 41, 42, 43, 44, 6, 45, 46, 47, 48, 49, 50, 51, 52, 53, 54, 55, 56, 57, 58, 59, 60, 61, 62, 63, 64, 65, 66, 67, 68, 69, 70, 71, 72, 73, 74, 83, 84, 85, 86, 87, 88, 89, 90, 91, 92, 93, 94, 95, 96, 97, 98, 99, 100, 101, 102, 103, 104, 105, 106, 107, 108, 109, 110, 111, 112, 113, 114, 115, 116, 117, 118, 119, 120, 121, 122, 123, 124, 125, 126, 127, 128, 129, 130] (by decide +kernel) (by decide +kernel)
set_option maxRecDepth 20000 in
theorem gX7_boat_X7_hasOf : GoodIn wsX7_boat (wsV RX7 278 RX7 yX7_hasOf wsX7_hasOf) := goodIn_app (goodIn_of _ (by decide +kernel)) ggX7_boat_X7_hasOf
set_option maxRecDepth 20000 in
theorem ggX7_boat_X7_caughtBy : GoodIn wsX7_boat wsX7_caughtBy := goodIn_r _ [78, 4, 5, 79, 80, 81, 10, 82, 20, 13, 14, 15, 83, 84, 85, 86, 87, 88, 89, 90, 91, 92, 93, 94, 95, 96, 97, 98, 99, 100, 101, 102, 103, 104, 105, 106, 107, 108, 109, 110, 111, 112, 113, 114, 115, 116, 117, 118, 119, 120, 121, 122, 123, 124, 125, 126, 127, 128, 129, 130] (by decide +kernel) (by decide +kernel)
set_option maxRecDepth 20000 in
theorem gX7_boat_X7_caughtBy : GoodIn wsX7_boat (wsV RX7 330 RX7 yX7_caughtBy wsX7_caughtBy) := goodIn_app (goodIn_of _ (by decide +kernel)) ggX7_boat_X7_caughtBy
theorem dX7_boat_0 : decode cX7_boat 0 = .ok (.aload_n 0, 1) := by decide +kernel
theorem dX7_boat_1 : decode cX7_boat 1 = .ok (.iload_n 1, 1) := by decide +kernel
theorem dX7_boat_2 : decode cX7_boat 2 = .ok (.invokevirtual 285, 3) := by decide +kernel
theorem dX7_boat_5 : decode cX7_boat 5 = .ok (.ifCond .ne 7, 3) := by decide +kernel
theorem dX7_boat_8 : decode cX7_boat 8 = .ok (.ldc_w 284, 3) := by decide +kernel
theorem dX7_boat_11 : decode cX7_boat 11 = .ok (.ireturn, 1) := by decide +kernel
theorem dX7_boat_12 : decode cX7_boat 12 = .ok (.iload_n 2, 1) := by decide +kernel
theorem dX7_boat_13 : decode cX7_boat 13 = .ok (.i2l, 1) := by decide +kernel
theorem dX7_boat_14 : decode cX7_boat 14 = .ok (.lconst 1, 1) := by decide +kernel
theorem dX7_boat_15 : decode cX7_boat 15 = .ok (.ldc2_w 106, 3) := by decide +kernel
theorem dX7_boat_18 : decode cX7_boat 18 = .ok (.invokestatic 93, 3) := by decide +kernel
theorem dX7_boat_21 : decode cX7_boat 21 = .ok (.ifCond .ne 6, 3) := by decide +kernel
theorem dX7_boat_24 : decode cX7_boat 24 = .ok (.ldc 108, 2) := by decide +kernel
theorem dX7_boat_26 : decode cX7_boat 26 = .ok (.ireturn, 1) := by decide +kernel
theorem dX7_boat_27 : decode cX7_boat 27 = .ok (.iconst 0, 1) := by decide +kernel
theorem dX7_boat_28 : decode cX7_boat 28 = .ok (.istore_n 3, 1) := by decide +kernel
theorem dX7_boat_29 : decode cX7_boat 29 = .ok (.iload_n 3, 1) := by decide +kernel
theorem dX7_boat_30 : decode cX7_boat 30 = .ok (.aload_n 0, 1) := by decide +kernel
theorem dX7_boat_31 : decode cX7_boat 31 = .ok (.invokevirtual 232, 3) := by decide +kernel
theorem dX7_boat_34 : decode cX7_boat 34 = .ok (.if_icmp .ge 32, 3) := by decide +kernel
theorem dX7_boat_37 : decode cX7_boat 37 = .ok (.aload_n 0, 1) := by decide +kernel
theorem dX7_boat_38 : decode cX7_boat 38 = .ok (.getfield 71, 3) := by decide +kernel
theorem dX7_boat_41 : decode cX7_boat 41 = .ok (.iload_n 3, 1) := by decide +kernel
theorem dX7_boat_42 : decode cX7_boat 42 = .ok (.aload_n 0, 1) := by decide +kernel
theorem dX7_boat_43 : decode cX7_boat 43 = .ok (.iload_n 1, 1) := by decide +kernel
theorem dX7_boat_44 : decode cX7_boat 44 = .ok (.iload_n 3, 1) := by decide +kernel
theorem dX7_boat_45 : decode cX7_boat 45 = .ok (.aload_n 0, 1) := by decide +kernel
theorem dX7_boat_46 : decode cX7_boat 46 = .ok (.getfield 90, 3) := by decide +kernel
theorem dX7_boat_49 : decode cX7_boat 49 = .ok (.irem, 1) := by decide +kernel
theorem dX7_boat_50 : decode cX7_boat 50 = .ok (.iload_n 3, 1) := by decide +kernel
theorem dX7_boat_51 : decode cX7_boat 51 = .ok (.aload_n 0, 1) := by decide +kernel
theorem dX7_boat_52 : decode cX7_boat 52 = .ok (.getfield 90, 3) := by decide +kernel
theorem dX7_boat_55 : decode cX7_boat 55 = .ok (.idiv, 1) := by decide +kernel
theorem dX7_boat_56 : decode cX7_boat 56 = .ok (.invokevirtual 278, 3) := by decide +kernel
theorem dX7_boat_59 : decode cX7_boat 59 = .ok (.iastore, 1) := by decide +kernel
theorem dX7_boat_60 : decode cX7_boat 60 = .ok (.iinc 3 1, 3) := by decide +kernel
theorem dX7_boat_63 : decode cX7_boat 63 = .ok (.goto (-34), 3) := by decide +kernel
theorem dX7_boat_66 : decode cX7_boat 66 = .ok (.aload_n 0, 1) := by decide +kernel
theorem dX7_boat_67 : decode cX7_boat 67 = .ok (.getfield 71, 3) := by decide +kernel
theorem dX7_boat_70 : decode cX7_boat 70 = .ok (.aload_n 0, 1) := by decide +kernel
theorem dX7_boat_71 : decode cX7_boat 71 = .ok (.getfield 7, 3) := by decide +kernel
theorem dX7_boat_74 : decode cX7_boat 74 = .ok (.iload_n 1, 1) := by decide +kernel
theorem dX7_boat_75 : decode cX7_boat 75 = .ok (.iaload, 1) := by decide +kernel
theorem dX7_boat_76 : decode cX7_boat 76 = .ok (.iaload, 1) := by decide +kernel
theorem dX7_boat_77 : decode cX7_boat 77 = .ok (.ifCond .ge 5, 3) := by decide +kernel
theorem dX7_boat_80 : decode cX7_boat 80 = .ok (.iconst (-1), 1) := by decide +kernel
theorem dX7_boat_81 : decode cX7_boat 81 = .ok (.ireturn, 1) := by decide +kernel
theorem dX7_boat_82 : decode cX7_boat 82 = .ok (.iconst 0, 1) := by decide +kernel
theorem dX7_boat_83 : decode cX7_boat 83 = .ok (.istore_n 3, 1) := by decide +kernel
theorem dX7_boat_84 : decode cX7_boat 84 = .ok (.iconst 0, 1) := by decide +kernel
theorem dX7_boat_85 : decode cX7_boat 85 = .ok (.istore 4, 2) := by decide +kernel
theorem dX7_boat_87 : decode cX7_boat 87 = .ok (.iload 4, 2) := by decide +kernel
theorem dX7_boat_89 : decode cX7_boat 89 = .ok (.iconst 1, 1) := by decide +kernel
theorem dX7_boat_90 : decode cX7_boat 90 = .ok (.iconst 2, 1) := by decide +kernel
theorem dX7_boat_91 : decode cX7_boat 91 = .ok (.iload_n 2, 1) := by decide +kernel
theorem dX7_boat_92 : decode cX7_boat 92 = .ok (.iconst 1, 1) := by decide +kernel
theorem dX7_boat_93 : decode cX7_boat 93 = .ok (.isub, 1) := by decide +kernel
theorem dX7_boat_94 : decode cX7_boat 94 = .ok (.imul, 1) := by decide +kernel
theorem dX7_boat_95 : decode cX7_boat 95 = .ok (.ishl, 1) := by decide +kernel
theorem dX7_boat_96 : decode cX7_boat 96 = .ok (.if_icmp .ge 37, 3) := by decide +kernel
theorem dX7_boat_99 : decode cX7_boat 99 = .ok (.aload_n 0, 1) := by decide +kernel
theorem dX7_boat_100 : decode cX7_boat 100 = .ok (.aload_n 0, 1) := by decide +kernel
theorem dX7_boat_101 : decode cX7_boat 101 = .ok (.getfield 7, 3) := by decide +kernel
theorem dX7_boat_104 : decode cX7_boat 104 = .ok (.iload_n 1, 1) := by decide +kernel
theorem dX7_boat_105 : decode cX7_boat 105 = .ok (.iaload, 1) := by decide +kernel
theorem dX7_boat_106 : decode cX7_boat 106 = .ok (.iload_n 2, 1) := by decide +kernel
theorem dX7_boat_107 : decode cX7_boat 107 = .ok (.iload 4, 2) := by decide +kernel
theorem dX7_boat_109 : decode cX7_boat 109 = .ok (.invokevirtual 330, 3) := by decide +kernel
theorem dX7_boat_112 : decode cX7_boat 112 = .ok (.istore 5, 2) := by decide +kernel
theorem dX7_boat_114 : decode cX7_boat 114 = .ok (.iload 5, 2) := by decide +kernel
theorem dX7_boat_116 : decode cX7_boat 116 = .ok (.iload_n 3, 1) := by decide +kernel
theorem dX7_boat_117 : decode cX7_boat 117 = .ok (.if_icmp .le 8, 3) := by decide +kernel
theorem dX7_boat_120 : decode cX7_boat 120 = .ok (.iload 5, 2) := by decide +kernel
theorem dX7_boat_122 : decode cX7_boat 122 = .ok (.goto 4, 3) := by decide +kernel
theorem dX7_boat_125 : decode cX7_boat 125 = .ok (.iload_n 3, 1) := by decide +kernel
theorem dX7_boat_126 : decode cX7_boat 126 = .ok (.istore_n 3, 1) := by decide +kernel
theorem dX7_boat_127 : decode cX7_boat 127 = .ok (.iinc 4 1, 3) := by decide +kernel
theorem dX7_boat_130 : decode cX7_boat 130 = .ok (.goto (-43), 3) := by decide +kernel
theorem dX7_boat_133 : decode cX7_boat 133 = .ok (.iload_n 3, 1) := by decide +kernel
theorem dX7_boat_134 : decode cX7_boat 134 = .ok (.ireturn, 1) := by decide +kernel
set_option maxRecDepth 20000 in
theorem ggX7_caughtBy_X7_isCell : GoodIn wsX7_caughtBy wsX7_isCell := goodIn_r _ [7, 2, 8, 9, 10, 6, 11, 12, 13, 14, 15, 16, 17, 18, 19, 20, 21, 22, 23, 24, 25, 26, 27, 28, 29, 30, 31, 32, 33, 34, 35, 36, 37, 38, 39, 40, 41, 42, 43, 44, 45, 46, 47, 48, 49, 50, 51, 52, 53, 54, 55, 56, 57, 58, 59] (by decide +kernel) (by decide +kernel)
set_option maxRecDepth 20000 in
theorem gX7_caughtBy_X7_isCell : GoodIn wsX7_caughtBy (wsV RX7 281 RX7 yX7_isCell wsX7_isCell) := goodIn_app (goodIn_of _ (by decide +kernel)) ggX7_caughtBy_X7_isCell
theorem dX7_caughtBy_0 : decode cX7_caughtBy 0 = .ok (.lconst 1, 1) := by decide +kernel
theorem dX7_caughtBy_1 : decode cX7_caughtBy 1 = .ok (.iload_n 1, 1) := by decide +kernel
theorem dX7_caughtBy_2 : decode cX7_caughtBy 2 = .ok (.lshl, 1) := by decide +kernel
theorem dX7_caughtBy_3 : decode cX7_caughtBy 3 = .ok (.lstore 4, 2) := by decide +kernel
theorem dX7_caughtBy_5 : decode cX7_caughtBy 5 = .ok (.iload_n 1, 1) := by decide +kernel
theorem dX7_caughtBy_6 : decode cX7_caughtBy 6 = .ok (.istore 6, 2) := by decide +kernel
theorem dX7_caughtBy_8 : decode cX7_caughtBy 8 = .ok (.aload_n 0, 1) := by decide +kernel
theorem dX7_caughtBy_9 : decode cX7_caughtBy 9 = .ok (.getfield 71, 3) := by decide +kernel
theorem dX7_caughtBy_12 : decode cX7_caughtBy 12 = .ok (.iload_n 1, 1) := by decide +kernel
theorem dX7_caughtBy_13 : decode cX7_caughtBy 13 = .ok (.iaload, 1) := by decide +kernel
theorem dX7_caughtBy_14 : decode cX7_caughtBy 14 = .ok (.istore 7, 2) := by decide +kernel
theorem dX7_caughtBy_16 : decode cX7_caughtBy 16 = .ok (.iconst 0, 1) := by decide +kernel
theorem dX7_caughtBy_17 : decode cX7_caughtBy 17 = .ok (.istore 8, 2) := by decide +kernel
theorem dX7_caughtBy_19 : decode cX7_caughtBy 19 = .ok (.iload 8, 2) := by decide +kernel
theorem dX7_caughtBy_21 : decode cX7_caughtBy 21 = .ok (.iload_n 2, 1) := by decide +kernel
theorem dX7_caughtBy_22 : decode cX7_caughtBy 22 = .ok (.iconst 1, 1) := by decide +kernel
theorem dX7_caughtBy_23 : decode cX7_caughtBy 23 = .ok (.isub, 1) := by decide +kernel
theorem dX7_caughtBy_24 : decode cX7_caughtBy 24 = .ok (.if_icmp .ge 161, 3) := by decide +kernel
theorem dX7_caughtBy_27 : decode cX7_caughtBy 27 = .ok (.iload_n 3, 1) := by decide +kernel
theorem dX7_caughtBy_28 : decode cX7_caughtBy 28 = .ok (.iconst 2, 1) := by decide +kernel
theorem dX7_caughtBy_29 : decode cX7_caughtBy 29 = .ok (.iload 8, 2) := by decide +kernel
theorem dX7_caughtBy_31 : decode cX7_caughtBy 31 = .ok (.imul, 1) := by decide +kernel
theorem dX7_caughtBy_32 : decode cX7_caughtBy 32 = .ok (.ishr, 1) := by decide +kernel
theorem dX7_caughtBy_33 : decode cX7_caughtBy 33 = .ok (.iconst 3, 1) := by decide +kernel
theorem dX7_caughtBy_34 : decode cX7_caughtBy 34 = .ok (.iand, 1) := by decide +kernel
theorem dX7_caughtBy_35 : decode cX7_caughtBy 35 = .ok (.istore 9, 2) := by decide +kernel
theorem dX7_caughtBy_37 : decode cX7_caughtBy 37 = .ok (.iload 6, 2) := by decide +kernel
theorem dX7_caughtBy_39 : decode cX7_caughtBy 39 = .ok (.aload_n 0, 1) := by decide +kernel
theorem dX7_caughtBy_40 : decode cX7_caughtBy 40 = .ok (.getfield 90, 3) := by decide +kernel
theorem dX7_caughtBy_43 : decode cX7_caughtBy 43 = .ok (.irem, 1) := by decide +kernel
theorem dX7_caughtBy_44 : decode cX7_caughtBy 44 = .ok (.iload 9, 2) := by decide +kernel
theorem dX7_caughtBy_46 : decode cX7_caughtBy 46 = .ok (.ifCond .ne 7, 3) := by decide +kernel
theorem dX7_caughtBy_49 : decode cX7_caughtBy 49 = .ok (.iconst (-1), 1) := by decide +kernel
theorem dX7_caughtBy_50 : decode cX7_caughtBy 50 = .ok (.goto 14, 3) := by decide +kernel
theorem dX7_caughtBy_53 : decode cX7_caughtBy 53 = .ok (.iload 9, 2) := by decide +kernel
theorem dX7_caughtBy_55 : decode cX7_caughtBy 55 = .ok (.iconst 1, 1) := by decide +kernel
theorem dX7_caughtBy_56 : decode cX7_caughtBy 56 = .ok (.if_icmp .ne 7, 3) := by decide +kernel
theorem dX7_caughtBy_59 : decode cX7_caughtBy 59 = .ok (.iconst 1, 1) := by decide +kernel
theorem dX7_caughtBy_60 : decode cX7_caughtBy 60 = .ok (.goto 4, 3) := by decide +kernel
theorem dX7_caughtBy_63 : decode cX7_caughtBy 63 = .ok (.iconst 0, 1) := by decide +kernel
theorem dX7_caughtBy_64 : decode cX7_caughtBy 64 = .ok (.iadd, 1) := by decide +kernel
theorem dX7_caughtBy_65 : decode cX7_caughtBy 65 = .ok (.istore 10, 2) := by decide +kernel
theorem dX7_caughtBy_67 : decode cX7_caughtBy 67 = .ok (.iload 6, 2) := by decide +kernel
theorem dX7_caughtBy_69 : decode cX7_caughtBy 69 = .ok (.aload_n 0, 1) := by decide +kernel
theorem dX7_caughtBy_70 : decode cX7_caughtBy 70 = .ok (.getfield 90, 3) := by decide +kernel
theorem dX7_caughtBy_73 : decode cX7_caughtBy 73 = .ok (.idiv, 1) := by decide +kernel
theorem dX7_caughtBy_74 : decode cX7_caughtBy 74 = .ok (.iload 9, 2) := by decide +kernel
theorem dX7_caughtBy_76 : decode cX7_caughtBy 76 = .ok (.iconst 2, 1) := by decide +kernel
theorem dX7_caughtBy_77 : decode cX7_caughtBy 77 = .ok (.if_icmp .ne 7, 3) := by decide +kernel
theorem dX7_caughtBy_80 : decode cX7_caughtBy 80 = .ok (.iconst (-1), 1) := by decide +kernel
theorem dX7_caughtBy_81 : decode cX7_caughtBy 81 = .ok (.goto 14, 3) := by decide +kernel
theorem dX7_caughtBy_84 : decode cX7_caughtBy 84 = .ok (.iload 9, 2) := by decide +kernel
theorem dX7_caughtBy_86 : decode cX7_caughtBy 86 = .ok (.iconst 3, 1) := by decide +kernel
theorem dX7_caughtBy_87 : decode cX7_caughtBy 87 = .ok (.if_icmp .ne 7, 3) := by decide +kernel
theorem dX7_caughtBy_90 : decode cX7_caughtBy 90 = .ok (.iconst 1, 1) := by decide +kernel
theorem dX7_caughtBy_91 : decode cX7_caughtBy 91 = .ok (.goto 4, 3) := by decide +kernel
theorem dX7_caughtBy_94 : decode cX7_caughtBy 94 = .ok (.iconst 0, 1) := by decide +kernel
theorem dX7_caughtBy_95 : decode cX7_caughtBy 95 = .ok (.iadd, 1) := by decide +kernel
theorem dX7_caughtBy_96 : decode cX7_caughtBy 96 = .ok (.istore 11, 2) := by decide +kernel
theorem dX7_caughtBy_98 : decode cX7_caughtBy 98 = .ok (.aload_n 0, 1) := by decide +kernel
theorem dX7_caughtBy_99 : decode cX7_caughtBy 99 = .ok (.iload 10, 2) := by decide +kernel
theorem dX7_caughtBy_101 : decode cX7_caughtBy 101 = .ok (.iload 11, 2) := by decide +kernel
theorem dX7_caughtBy_103 : decode cX7_caughtBy 103 = .ok (.invokevirtual 281, 3) := by decide +kernel
theorem dX7_caughtBy_106 : decode cX7_caughtBy 106 = .ok (.ifCond .eq 21, 3) := by decide +kernel
theorem dX7_caughtBy_109 : decode cX7_caughtBy 109 = .ok (.aload_n 0, 1) := by decide +kernel
theorem dX7_caughtBy_110 : decode cX7_caughtBy 110 = .ok (.getfield 71, 3) := by decide +kernel
theorem dX7_caughtBy_113 : decode cX7_caughtBy 113 = .ok (.aload_n 0, 1) := by decide +kernel
theorem dX7_caughtBy_114 : decode cX7_caughtBy 114 = .ok (.getfield 90, 3) := by decide +kernel
theorem dX7_caughtBy_117 : decode cX7_caughtBy 117 = .ok (.iload 11, 2) := by decide +kernel
theorem dX7_caughtBy_119 : decode cX7_caughtBy 119 = .ok (.imul, 1) := by decide +kernel
theorem dX7_caughtBy_120 : decode cX7_caughtBy 120 = .ok (.iload 10, 2) := by decide +kernel
theorem dX7_caughtBy_122 : decode cX7_caughtBy 122 = .ok (.iadd, 1) := by decide +kernel
theorem dX7_caughtBy_123 : decode cX7_caughtBy 123 = .ok (.iaload, 1) := by decide +kernel
theorem dX7_caughtBy_124 : decode cX7_caughtBy 124 = .ok (.ifCond .ge 6, 3) := by decide +kernel
theorem dX7_caughtBy_127 : decode cX7_caughtBy 127 = .ok (.iload 7, 2) := by decide +kernel
theorem dX7_caughtBy_129 : decode cX7_caughtBy 129 = .ok (.ireturn, 1) := by decide +kernel
theorem dX7_caughtBy_130 : decode cX7_caughtBy 130 = .ok (.aload_n 0, 1) := by decide +kernel
theorem dX7_caughtBy_131 : decode cX7_caughtBy 131 = .ok (.getfield 90, 3) := by decide +kernel
theorem dX7_caughtBy_134 : decode cX7_caughtBy 134 = .ok (.iload 11, 2) := by decide +kernel
theorem dX7_caughtBy_136 : decode cX7_caughtBy 136 = .ok (.imul, 1) := by decide +kernel
theorem dX7_caughtBy_137 : decode cX7_caughtBy 137 = .ok (.iload 10, 2) := by decide +kernel
theorem dX7_caughtBy_139 : decode cX7_caughtBy 139 = .ok (.iadd, 1) := by decide +kernel
theorem dX7_caughtBy_140 : decode cX7_caughtBy 140 = .ok (.istore 6, 2) := by decide +kernel
theorem dX7_caughtBy_142 : decode cX7_caughtBy 142 = .ok (.iload 7, 2) := by decide +kernel
theorem dX7_caughtBy_144 : decode cX7_caughtBy 144 = .ok (.lload 4, 2) := by decide +kernel
theorem dX7_caughtBy_146 : decode cX7_caughtBy 146 = .ok (.iload 6, 2) := by decide +kernel
theorem dX7_caughtBy_148 : decode cX7_caughtBy 148 = .ok (.lshr, 1) := by decide +kernel
theorem dX7_caughtBy_149 : decode cX7_caughtBy 149 = .ok (.lconst 1, 1) := by decide +kernel
theorem dX7_caughtBy_150 : decode cX7_caughtBy 150 = .ok (.land, 1) := by decide +kernel
theorem dX7_caughtBy_151 : decode cX7_caughtBy 151 = .ok (.lconst 1, 1) := by decide +kernel
theorem dX7_caughtBy_152 : decode cX7_caughtBy 152 = .ok (.lcmp, 1) := by decide +kernel
theorem dX7_caughtBy_153 : decode cX7_caughtBy 153 = .ok (.ifCond .ne 7, 3) := by decide +kernel
theorem dX7_caughtBy_156 : decode cX7_caughtBy 156 = .ok (.iconst 0, 1) := by decide +kernel
theorem dX7_caughtBy_157 : decode cX7_caughtBy 157 = .ok (.goto 10, 3) := by decide +kernel
theorem dX7_caughtBy_160 : decode cX7_caughtBy 160 = .ok (.aload_n 0, 1) := by decide +kernel
theorem dX7_caughtBy_161 : decode cX7_caughtBy 161 = .ok (.getfield 71, 3) := by decide +kernel
theorem dX7_caughtBy_164 : decode cX7_caughtBy 164 = .ok (.iload 6, 2) := by decide +kernel
theorem dX7_caughtBy_166 : decode cX7_caughtBy 166 = .ok (.iaload, 1) := by decide +kernel
theorem dX7_caughtBy_167 : decode cX7_caughtBy 167 = .ok (.iadd, 1) := by decide +kernel
theorem dX7_caughtBy_168 : decode cX7_caughtBy 168 = .ok (.istore 7, 2) := by decide +kernel
theorem dX7_caughtBy_170 : decode cX7_caughtBy 170 = .ok (.lload 4, 2) := by decide +kernel
theorem dX7_caughtBy_172 : decode cX7_caughtBy 172 = .ok (.lconst 1, 1) := by decide +kernel
theorem dX7_caughtBy_173 : decode cX7_caughtBy 173 = .ok (.iload 6, 2) := by decide +kernel
theorem dX7_caughtBy_175 : decode cX7_caughtBy 175 = .ok (.lshl, 1) := by decide +kernel
theorem dX7_caughtBy_176 : decode cX7_caughtBy 176 = .ok (.lor, 1) := by decide +kernel
theorem dX7_caughtBy_177 : decode cX7_caughtBy 177 = .ok (.lstore 4, 2) := by decide +kernel
theorem dX7_caughtBy_179 : decode cX7_caughtBy 179 = .ok (.iinc 8 1, 3) := by decide +kernel
theorem dX7_caughtBy_182 : decode cX7_caughtBy 182 = .ok (.goto (-163), 3) := by decide +kernel
theorem dX7_caughtBy_185 : decode cX7_caughtBy 185 = .ok (.iload 7, 2) := by decide +kernel
theorem dX7_caughtBy_187 : decode cX7_caughtBy 187 = .ok (.ireturn, 1) := by decide +kernel
set_option maxRecDepth 20000 in
theorem ggX7_seesAll_X7_cells : GoodIn wsX7_seesAll wsX7_cells := goodIn_r _ [6, 1, 7, 21, 22, 23, 24, 25, 26, 27, 28, 29, 30, 31, 32, 33, 34, 35, 36, 37, 38, 39, 40, 41, 42, 43, 44, 45, 46, 47, 48, 49, 50, 51, 52, 53, 54, 55, 56, 57, 58, 59, 60, 61, 62, 63, 64, 65, 66, 67, 68] (by decide +kernel) (by decide +kernel)
set_option maxRecDepth 20000 in
theorem gX7_seesAll_X7_cells : GoodIn wsX7_seesAll (wsV RX7 232 RX7 yX7_cells wsX7_cells) := goodIn_app (goodIn_of _ (by decide +kernel)) ggX7_seesAll_X7_cells
set_option maxRecDepth 20000 in
theorem ggX7_seesAll_X7_isClear : GoodIn wsX7_seesAll wsX7_isClear := goodIn_r _ [11, 12, 13, 14, 5, 15, 21, 22, 23, 24, 25, 26, 27, 28, 29, 30, 31, 32, 33, 34, 35, 36, 37, 38, 39, 40, 41, 42, 43, 44, 45, 46, 47, 48, 49, 50, 51, 52, 53, 54, 55, 56, 57, 58, 59, 60, 61, 62, 63, 64, 65, 66, 67, 68] (by decide +kernel) (by decide +kernel)
set_option maxRecDepth 20000 in
theorem gX7_seesAll_X7_isClear : GoodIn wsX7_seesAll (wsV RX7 247 RX7 yX7_isClear wsX7_isClear) := goodIn_app (goodIn_of _ (by decide +kernel)) ggX7_seesAll_X7_isClear
set_option maxRecDepth 20000 in
theorem ggX7_seesAll_X7_blockerOf : GoodIn wsX7_seesAll wsX7_blockerOf := goodIn_r _ [19, 12, 20, 1, 21, 22, 23, 24, 25, 26, 27, 28, 29, 30, 31, 32, 33, 34, 35, 36, 37, 38, 39, 40, 41, 42, 43, 44, 45, 46, 47, 48, 49, 50, 51, 52, 53, 54, 55, 56, 57, 58, 59, 60, 61, 62, 63, 64, 65, 66, 67, 68] (by decide +kernel) (by decide +kernel)
set_option maxRecDepth 20000 in
theorem gX7_seesAll_X7_blockerOf : GoodIn wsX7_seesAll (wsV RX7 254 RX7 yX7_blockerOf wsX7_blockerOf) := goodIn_app (goodIn_of _ (by decide +kernel)) ggX7_seesAll_X7_blockerOf
theorem dX7_seesAll_0 : decode cX7_seesAll 0 = .ok (.iconst 1, 1) := by decide +kernel
theorem dX7_seesAll_1 : decode cX7_seesAll 1 = .ok (.istore 4, 2) := by decide +kernel
theorem dX7_seesAll_3 : decode cX7_seesAll 3 = .ok (.iconst 0, 1) := by decide +kernel
theorem dX7_seesAll_4 : decode cX7_seesAll 4 = .ok (.istore 5, 2) := by decide +kernel
theorem dX7_seesAll_6 : decode cX7_seesAll 6 = .ok (.iload 5, 2) := by decide +kernel
theorem dX7_seesAll_8 : decode cX7_seesAll 8 = .ok (.aload_n 0, 1) := by decide +kernel
theorem dX7_seesAll_9 : decode cX7_seesAll 9 = .ok (.invokevirtual 232, 3) := by decide +kernel
theorem dX7_seesAll_12 : decode cX7_seesAll 12 = .ok (.if_icmp .ge 67, 3) := by decide +kernel
theorem dX7_seesAll_15 : decode cX7_seesAll 15 = .ok (.iload 4, 2) := by decide +kernel
theorem dX7_seesAll_17 : decode cX7_seesAll 17 = .ok (.ifCond .eq 62, 3) := by decide +kernel
theorem dX7_seesAll_20 : decode cX7_seesAll 20 = .ok (.aload_n 0, 1) := by decide +kernel
theorem dX7_seesAll_21 : decode cX7_seesAll 21 = .ok (.iload_n 1, 1) := by decide +kernel
theorem dX7_seesAll_22 : decode cX7_seesAll 22 = .ok (.iload 5, 2) := by decide +kernel
theorem dX7_seesAll_24 : decode cX7_seesAll 24 = .ok (.aload_n 0, 1) := by decide +kernel
theorem dX7_seesAll_25 : decode cX7_seesAll 25 = .ok (.getfield 90, 3) := by decide +kernel
theorem dX7_seesAll_28 : decode cX7_seesAll 28 = .ok (.irem, 1) := by decide +kernel
theorem dX7_seesAll_29 : decode cX7_seesAll 29 = .ok (.iload 5, 2) := by decide +kernel
theorem dX7_seesAll_31 : decode cX7_seesAll 31 = .ok (.aload_n 0, 1) := by decide +kernel
theorem dX7_seesAll_32 : decode cX7_seesAll 32 = .ok (.getfield 90, 3) := by decide +kernel
theorem dX7_seesAll_35 : decode cX7_seesAll 35 = .ok (.idiv, 1) := by decide +kernel
theorem dX7_seesAll_36 : decode cX7_seesAll 36 = .ok (.iload_n 3, 1) := by decide +kernel
theorem dX7_seesAll_37 : decode cX7_seesAll 37 = .ok (.invokevirtual 247, 3) := by decide +kernel
theorem dX7_seesAll_40 : decode cX7_seesAll 40 = .ok (.ifCond .eq 26, 3) := by decide +kernel
theorem dX7_seesAll_43 : decode cX7_seesAll 43 = .ok (.aload_n 0, 1) := by decide +kernel
theorem dX7_seesAll_44 : decode cX7_seesAll 44 = .ok (.iload_n 1, 1) := by decide +kernel
theorem dX7_seesAll_45 : decode cX7_seesAll 45 = .ok (.iload_n 2, 1) := by decide +kernel
theorem dX7_seesAll_46 : decode cX7_seesAll 46 = .ok (.iload 5, 2) := by decide +kernel
theorem dX7_seesAll_48 : decode cX7_seesAll 48 = .ok (.aload_n 0, 1) := by decide +kernel
theorem dX7_seesAll_49 : decode cX7_seesAll 49 = .ok (.getfield 90, 3) := by decide +kernel
theorem dX7_seesAll_52 : decode cX7_seesAll 52 = .ok (.irem, 1) := by decide +kernel
theorem dX7_seesAll_53 : decode cX7_seesAll 53 = .ok (.iload 5, 2) := by decide +kernel
theorem dX7_seesAll_55 : decode cX7_seesAll 55 = .ok (.aload_n 0, 1) := by decide +kernel
theorem dX7_seesAll_56 : decode cX7_seesAll 56 = .ok (.getfield 90, 3) := by decide +kernel
theorem dX7_seesAll_59 : decode cX7_seesAll 59 = .ok (.idiv, 1) := by decide +kernel
theorem dX7_seesAll_60 : decode cX7_seesAll 60 = .ok (.invokevirtual 254, 3) := by decide +kernel
theorem dX7_seesAll_63 : decode cX7_seesAll 63 = .ok (.ifCond .ge 7, 3) := by decide +kernel
theorem dX7_seesAll_66 : decode cX7_seesAll 66 = .ok (.iconst 1, 1) := by decide +kernel
theorem dX7_seesAll_67 : decode cX7_seesAll 67 = .ok (.goto 4, 3) := by decide +kernel
theorem dX7_seesAll_70 : decode cX7_seesAll 70 = .ok (.iconst 0, 1) := by decide +kernel
theorem dX7_seesAll_71 : decode cX7_seesAll 71 = .ok (.istore 4, 2) := by decide +kernel
theorem dX7_seesAll_73 : decode cX7_seesAll 73 = .ok (.iinc 5 1, 3) := by decide +kernel
theorem dX7_seesAll_76 : decode cX7_seesAll 76 = .ok (.goto (-70), 3) := by decide +kernel
theorem dX7_seesAll_79 : decode cX7_seesAll 79 = .ok (.iload 4, 2) := by decide +kernel
theorem dX7_seesAll_81 : decode cX7_seesAll 81 = .ok (.ireturn, 1) := by decide +kernel
set_option maxRecDepth 20000 in
theorem ggX7_needed_X7_isMan : GoodIn wsX7_needed wsX7_isMan := goodIn_r _ [7, 8, 9, 10, 6, 11, 48, 49, 50, 51, 52, 53, 54, 55, 56, 57, 58, 59, 60, 61, 62, 63, 64, 65, 66, 67, 68, 69, 70, 71, 72, 73, 74, 75, 76, 77, 78, 79, 80, 81, 82, 83, 84, 85, 86, 87, 88, 89, 90, 91, 92, 93, 94, 95] (by decide +kernel) (by decide +kernel)
set_option maxRecDepth 20000 in
theorem gX7_needed_X7_isMan : GoodIn wsX7_needed (wsV RX7 285 RX7 yX7_isMan wsX7_isMan) := goodIn_app (goodIn_of _ (by decide +kernel)) ggX7_needed_X7_isMan
set_option maxRecDepth 20000 in
theorem ggX7_needed_X7_farNow : GoodIn wsX7_needed wsX7_farNow := goodIn_r _ [15, 16, 17, 18, 9, 10, 6, 11, 48, 49, 50, 51, 52, 53, 54, 55, 56, 57, 58, 59, 60, 61, 62, 63, 64, 65, 66, 67, 68, 69, 70, 71, 72, 73, 74, 75, 76, 77, 78, 79, 80, 81, 82, 83, 84, 85, 86, 87, 88, 89, 90, 91, 92, 93, 94, 95] (by decide +kernel) (by decide +kernel)
set_option maxRecDepth 20000 in
theorem gX7_needed_X7_farNow : GoodIn wsX7_needed (wsV RX7 238 RX7 yX7_farNow wsX7_farNow) := goodIn_app (goodIn_of _ (by decide +kernel)) ggX7_needed_X7_farNow
set_option maxRecDepth 20000 in
theorem ggX7_needed_X7_eyeOf : GoodIn wsX7_needed wsX7_eyeOf := goodIn_r _ [22, 23, 24, 2, 48, 49, 50, 51, 52, 53, 54, 55, 56, 57, 58, 59, 60, 61, 62, 63, 64, 65, 66, 67, 68, 69, 70, 71, 72, 73, 74, 75, 76, 77, 78, 79, 80, 81, 82, 83, 84, 85, 86, 87, 88, 89, 90, 91, 92, 93, 94, 95] (by decide +kernel) (by decide +kernel)
set_option maxRecDepth 20000 in
theorem gX7_needed_X7_eyeOf : GoodIn wsX7_needed (wsV RX7 251 RX7 yX7_eyeOf wsX7_eyeOf) := goodIn_app (goodIn_of _ (by decide +kernel)) ggX7_needed_X7_eyeOf
set_option maxRecDepth 20000 in
theorem ggX7_needed_X7_seesAll : GoodIn wsX7_needed wsX7_seesAll := goodIn_r _ [28, 29, 30, 31, 32, 6, 33, 34, 35, 36, 37, 38, 39, 40, 41, 42, 43, 44, 45, 46, 47, 48, 49, 50, 51, 52, 53, 54, 55, 56, 57, 58, 59, 60, 61, 62, 63, 64, 65, 66, 67, 68, 69, 70, 71, 72, 73, 74, 75, 76, 77, 78, 79, 80, 81, 82, 83, 84, 85, 86, 87, 88, 89, 90, 91, 92, 93, 94, 95] (by decide +kernel) (by decide +kernel)
set_option maxRecDepth 20000 in
theorem gX7_needed_X7_seesAll : GoodIn wsX7_needed (wsV RX7 333 RX7 yX7_seesAll wsX7_seesAll) := goodIn_app (goodIn_of _ (by decide +kernel)) ggX7_needed_X7_seesAll
theorem dX7_needed_0 : decode cX7_needed 0 = .ok (.aload_n 0, 1) := by decide +kernel
theorem dX7_needed_1 : decode cX7_needed 1 = .ok (.iload_n 1, 1) := by decide +kernel
theorem dX7_needed_2 : decode cX7_needed 2 = .ok (.invokevirtual 285, 3) := by decide +kernel
theorem dX7_needed_5 : decode cX7_needed 5 = .ok (.ifCond .ne 7, 3) := by decide +kernel
theorem dX7_needed_8 : decode cX7_needed 8 = .ok (.ldc_w 284, 3) := by decide +kernel
theorem dX7_needed_11 : decode cX7_needed 11 = .ok (.ireturn, 1) := by decide +kernel
theorem dX7_needed_12 : decode cX7_needed 12 = .ok (.aload_n 0, 1) := by decide +kernel
theorem dX7_needed_13 : decode cX7_needed 13 = .ok (.invokevirtual 238, 3) := by decide +kernel
theorem dX7_needed_16 : decode cX7_needed 16 = .ok (.istore_n 2, 1) := by decide +kernel
theorem dX7_needed_17 : decode cX7_needed 17 = .ok (.iconst 0, 1) := by decide +kernel
theorem dX7_needed_18 : decode cX7_needed 18 = .ok (.istore_n 3, 1) := by decide +kernel
theorem dX7_needed_19 : decode cX7_needed 19 = .ok (.iload_n 3, 1) := by decide +kernel
theorem dX7_needed_20 : decode cX7_needed 20 = .ok (.bipush 99, 2) := by decide +kernel
theorem dX7_needed_22 : decode cX7_needed 22 = .ok (.if_icmp .gt 32, 3) := by decide +kernel
theorem dX7_needed_25 : decode cX7_needed 25 = .ok (.aload_n 0, 1) := by decide +kernel
theorem dX7_needed_26 : decode cX7_needed 26 = .ok (.iload_n 1, 1) := by decide +kernel
theorem dX7_needed_27 : decode cX7_needed 27 = .ok (.aload_n 0, 1) := by decide +kernel
theorem dX7_needed_28 : decode cX7_needed 28 = .ok (.iload_n 1, 1) := by decide +kernel
theorem dX7_needed_29 : decode cX7_needed 29 = .ok (.invokevirtual 251, 3) := by decide +kernel
theorem dX7_needed_32 : decode cX7_needed 32 = .ok (.iload_n 3, 1) := by decide +kernel
theorem dX7_needed_33 : decode cX7_needed 33 = .ok (.aload_n 0, 1) := by decide +kernel
theorem dX7_needed_34 : decode cX7_needed 34 = .ok (.getfield 28, 3) := by decide +kernel
theorem dX7_needed_37 : decode cX7_needed 37 = .ok (.imul, 1) := by decide +kernel
theorem dX7_needed_38 : decode cX7_needed 38 = .ok (.iadd, 1) := by decide +kernel
theorem dX7_needed_39 : decode cX7_needed 39 = .ok (.iload_n 2, 1) := by decide +kernel
theorem dX7_needed_40 : decode cX7_needed 40 = .ok (.invokevirtual 333, 3) := by decide +kernel
theorem dX7_needed_43 : decode cX7_needed 43 = .ok (.ifCond .eq 5, 3) := by decide +kernel
theorem dX7_needed_46 : decode cX7_needed 46 = .ok (.iload_n 3, 1) := by decide +kernel
theorem dX7_needed_47 : decode cX7_needed 47 = .ok (.ireturn, 1) := by decide +kernel
theorem dX7_needed_48 : decode cX7_needed 48 = .ok (.iinc 3 1, 3) := by decide +kernel
theorem dX7_needed_51 : decode cX7_needed 51 = .ok (.goto (-32), 3) := by decide +kernel
theorem dX7_needed_54 : decode cX7_needed 54 = .ok (.iconst (-1), 1) := by decide +kernel
theorem dX7_needed_55 : decode cX7_needed 55 = .ok (.ireturn, 1) := by decide +kernel
set_option maxRecDepth 20000 in
theorem ggX7_write_X7_isMan : GoodIn wsX7_write wsX7_isMan := goodIn_r _ [11, 12, 13, 14, 10, 15, 22, 23, 24, 25, 26, 27, 28, 29, 30, 31, 32, 33, 34, 35, 36, 37, 38, 39, 40, 41, 42, 43, 44, 45, 46, 47, 48, 49, 50, 51, 52, 53, 54, 55, 56, 57, 58, 59, 60, 61, 62, 63, 64, 65, 66, 67, 68, 69] (by decide +kernel) (by decide +kernel)
set_option maxRecDepth 20000 in
theorem gX7_write_X7_isMan : GoodIn wsX7_write (wsV RX7 285 RX7 yX7_isMan wsX7_isMan) := goodIn_app (goodIn_of _ (by decide +kernel)) ggX7_write_X7_isMan
set_option maxRecDepth 20000 in
theorem ggX7_write_X7_isCell : GoodIn wsX7_write wsX7_isCell := goodIn_r _ [19, 20, 21, 13, 14, 10, 15, 22, 23, 24, 25, 26, 27, 28, 29, 30, 31, 32, 33, 34, 35, 36, 37, 38, 39, 40, 41, 42, 43, 44, 45, 46, 47, 48, 49, 50, 51, 52, 53, 54, 55, 56, 57, 58, 59, 60, 61, 62, 63, 64, 65, 66, 67, 68, 69] (by decide +kernel) (by decide +kernel)
set_option maxRecDepth 20000 in
theorem gX7_write_X7_isCell : GoodIn wsX7_write (wsV RX7 281 RX7 yX7_isCell wsX7_isCell) := goodIn_app (goodIn_of _ (by decide +kernel)) ggX7_write_X7_isCell
theorem dX7_write_0 : decode cX7_write 0 = .ok (.aload_n 0, 1) := by decide +kernel
theorem dX7_write_1 : decode cX7_write 1 = .ok (.iload_n 1, 1) := by decide +kernel
theorem dX7_write_2 : decode cX7_write 2 = .ok (.invokevirtual 285, 3) := by decide +kernel
theorem dX7_write_5 : decode cX7_write 5 = .ok (.ifCond .eq 12, 3) := by decide +kernel
theorem dX7_write_8 : decode cX7_write 8 = .ok (.aload_n 0, 1) := by decide +kernel
theorem dX7_write_9 : decode cX7_write 9 = .ok (.iload_n 2, 1) := by decide +kernel
theorem dX7_write_10 : decode cX7_write 10 = .ok (.iload_n 3, 1) := by decide +kernel
theorem dX7_write_11 : decode cX7_write 11 = .ok (.invokevirtual 281, 3) := by decide +kernel
theorem dX7_write_14 : decode cX7_write 14 = .ok (.ifCond .ne 7, 3) := by decide +kernel
theorem dX7_write_17 : decode cX7_write 17 = .ok (.ldc_w 284, 3) := by decide +kernel
theorem dX7_write_20 : decode cX7_write 20 = .ok (.ireturn, 1) := by decide +kernel
theorem dX7_write_21 : decode cX7_write 21 = .ok (.aload_n 0, 1) := by decide +kernel
theorem dX7_write_22 : decode cX7_write 22 = .ok (.getfield 226, 3) := by decide +kernel
theorem dX7_write_25 : decode cX7_write 25 = .ok (.bipush 40, 2) := by decide +kernel
theorem dX7_write_27 : decode cX7_write 27 = .ok (.if_icmp .ne 6, 3) := by decide +kernel
theorem dX7_write_30 : decode cX7_write 30 = .ok (.ldc 112, 2) := by decide +kernel
theorem dX7_write_32 : decode cX7_write 32 = .ok (.ireturn, 1) := by decide +kernel
theorem dX7_write_33 : decode cX7_write 33 = .ok (.aload_n 0, 1) := by decide +kernel
theorem dX7_write_34 : decode cX7_write 34 = .ok (.getfield 74, 3) := by decide +kernel
theorem dX7_write_37 : decode cX7_write 37 = .ok (.aload_n 0, 1) := by decide +kernel
theorem dX7_write_38 : decode cX7_write 38 = .ok (.getfield 226, 3) := by decide +kernel
theorem dX7_write_41 : decode cX7_write 41 = .ok (.iload_n 1, 1) := by decide +kernel
theorem dX7_write_42 : decode cX7_write 42 = .ok (.iastore, 1) := by decide +kernel
theorem dX7_write_43 : decode cX7_write 43 = .ok (.aload_n 0, 1) := by decide +kernel
theorem dX7_write_44 : decode cX7_write 44 = .ok (.getfield 77, 3) := by decide +kernel
theorem dX7_write_47 : decode cX7_write 47 = .ok (.aload_n 0, 1) := by decide +kernel
theorem dX7_write_48 : decode cX7_write 48 = .ok (.getfield 226, 3) := by decide +kernel
theorem dX7_write_51 : decode cX7_write 51 = .ok (.iload_n 2, 1) := by decide +kernel
theorem dX7_write_52 : decode cX7_write 52 = .ok (.iastore, 1) := by decide +kernel
theorem dX7_write_53 : decode cX7_write 53 = .ok (.aload_n 0, 1) := by decide +kernel
theorem dX7_write_54 : decode cX7_write 54 = .ok (.getfield 80, 3) := by decide +kernel
theorem dX7_write_57 : decode cX7_write 57 = .ok (.aload_n 0, 1) := by decide +kernel
theorem dX7_write_58 : decode cX7_write 58 = .ok (.getfield 226, 3) := by decide +kernel
theorem dX7_write_61 : decode cX7_write 61 = .ok (.iload_n 3, 1) := by decide +kernel
theorem dX7_write_62 : decode cX7_write 62 = .ok (.iastore, 1) := by decide +kernel
theorem dX7_write_63 : decode cX7_write 63 = .ok (.aload_n 0, 1) := by decide +kernel
theorem dX7_write_64 : decode cX7_write 64 = .ok (.dup, 1) := by decide +kernel
theorem dX7_write_65 : decode cX7_write 65 = .ok (.getfield 226, 3) := by decide +kernel
theorem dX7_write_68 : decode cX7_write 68 = .ok (.iconst 1, 1) := by decide +kernel
theorem dX7_write_69 : decode cX7_write 69 = .ok (.iadd, 1) := by decide +kernel
theorem dX7_write_70 : decode cX7_write 70 = .ok (.putfield 226, 3) := by decide +kernel
theorem dX7_write_73 : decode cX7_write 73 = .ok (.aload_n 0, 1) := by decide +kernel
theorem dX7_write_74 : decode cX7_write 74 = .ok (.getfield 226, 3) := by decide +kernel
theorem dX7_write_77 : decode cX7_write 77 = .ok (.ireturn, 1) := by decide +kernel
theorem dX7_tear_0 : decode cX7_tear 0 = .ok (.aload_n 0, 1) := by decide +kernel
theorem dX7_tear_1 : decode cX7_tear 1 = .ok (.getfield 226, 3) := by decide +kernel
theorem dX7_tear_4 : decode cX7_tear 4 = .ok (.istore_n 1, 1) := by decide +kernel
theorem dX7_tear_5 : decode cX7_tear 5 = .ok (.aload_n 0, 1) := by decide +kernel
theorem dX7_tear_6 : decode cX7_tear 6 = .ok (.iconst 0, 1) := by decide +kernel
theorem dX7_tear_7 : decode cX7_tear 7 = .ok (.putfield 226, 3) := by decide +kernel
theorem dX7_tear_10 : decode cX7_tear 10 = .ok (.iload_n 1, 1) := by decide +kernel
theorem dX7_tear_11 : decode cX7_tear 11 = .ok (.ireturn, 1) := by decide +kernel
set_option maxRecDepth 20000 in
theorem ggX7_judge_X7_seers : GoodIn wsX7_judge wsX7_seers := goodIn_r _ [9, 10, 11, 12, 13, 8, 14, 15, 16, 17, 18, 19, 20, 21, 22, 23, 24, 25, 26, 27, 28, 29, 30, 31, 32, 33, 34, 35, 36, 37, 38, 39, 40, 41, 42, 43, 44, 45, 58, 59, 60, 61, 62, 63, 64, 65, 66, 67, 68, 69, 70, 71, 72, 73, 74, 75, 76, 77, 78, 79, 80, 81, 82, 83, 84, 85, 86, 87, 88, 89, 90, 91, 92, 93, 94, 95, 96, 97, 98, 99, 100, 101, 102, 103, 104, 105] (by decide +kernel) (by decide +kernel)
set_option maxRecDepth 20000 in
theorem gX7_judge_X7_seers : GoodIn wsX7_judge (wsV RX7 269 RX7 yX7_seers wsX7_seers) := goodIn_app (goodIn_of _ (by decide +kernel)) ggX7_judge_X7_seers
set_option maxRecDepth 20000 in
theorem ggX7_judge_X7_ownersOf : GoodIn wsX7_judge wsX7_ownersOf := goodIn_r _ [49, 50, 10, 51, 52, 8, 53, 54, 55, 56, 57, 29, 33, 34, 35, 36, 37, 38, 39, 58, 59, 60, 61, 62, 63, 64, 65, 66, 67, 68, 69, 70, 71, 72, 73, 74, 75, 76, 77, 78, 79, 80, 81, 82, 83, 84, 85, 86, 87, 88, 89, 90, 91, 92, 93, 94, 95, 96, 97, 98, 99, 100, 101, 102, 103, 104, 105] (by decide +kernel) (by decide +kernel)
set_option maxRecDepth 20000 in
theorem gX7_judge_X7_ownersOf : GoodIn wsX7_judge (wsV RX7 272 RX7 yX7_ownersOf wsX7_ownersOf) := goodIn_app (goodIn_of _ (by decide +kernel)) ggX7_judge_X7_ownersOf
set_option maxRecDepth 20000 in
theorem ggX7_judge_X7_has : GoodIn wsX7_judge wsX7_has := goodIn_r _ [53] (by decide +kernel) (by decide +kernel)
set_option maxRecDepth 20000 in
theorem gX7_judge_X7_has : GoodIn wsX7_judge (va_wsS RX7 261 yX7_has wsX7_has) := goodIn_app (goodIn_of _ (by decide +kernel)) ggX7_judge_X7_has
theorem dX7_judge_0 : decode cX7_judge 0 = .ok (.iconst 0, 1) := by decide +kernel
theorem dX7_judge_1 : decode cX7_judge 1 = .ok (.istore_n 1, 1) := by decide +kernel
theorem dX7_judge_2 : decode cX7_judge 2 = .ok (.iload_n 1, 1) := by decide +kernel
theorem dX7_judge_3 : decode cX7_judge 3 = .ok (.aload_n 0, 1) := by decide +kernel
theorem dX7_judge_4 : decode cX7_judge 4 = .ok (.getfield 226, 3) := by decide +kernel
theorem dX7_judge_7 : decode cX7_judge 7 = .ok (.if_icmp .ge 57, 3) := by decide +kernel
theorem dX7_judge_10 : decode cX7_judge 10 = .ok (.aload_n 0, 1) := by decide +kernel
theorem dX7_judge_11 : decode cX7_judge 11 = .ok (.aload_n 0, 1) := by decide +kernel
theorem dX7_judge_12 : decode cX7_judge 12 = .ok (.aload_n 0, 1) := by decide +kernel
theorem dX7_judge_13 : decode cX7_judge 13 = .ok (.getfield 77, 3) := by decide +kernel
theorem dX7_judge_16 : decode cX7_judge 16 = .ok (.iload_n 1, 1) := by decide +kernel
theorem dX7_judge_17 : decode cX7_judge 17 = .ok (.iaload, 1) := by decide +kernel
theorem dX7_judge_18 : decode cX7_judge 18 = .ok (.aload_n 0, 1) := by decide +kernel
theorem dX7_judge_19 : decode cX7_judge 19 = .ok (.getfield 80, 3) := by decide +kernel
theorem dX7_judge_22 : decode cX7_judge 22 = .ok (.iload_n 1, 1) := by decide +kernel
theorem dX7_judge_23 : decode cX7_judge 23 = .ok (.iaload, 1) := by decide +kernel
theorem dX7_judge_24 : decode cX7_judge 24 = .ok (.invokevirtual 269, 3) := by decide +kernel
theorem dX7_judge_27 : decode cX7_judge 27 = .ok (.aload_n 0, 1) := by decide +kernel
theorem dX7_judge_28 : decode cX7_judge 28 = .ok (.getfield 77, 3) := by decide +kernel
theorem dX7_judge_31 : decode cX7_judge 31 = .ok (.iload_n 1, 1) := by decide +kernel
theorem dX7_judge_32 : decode cX7_judge 32 = .ok (.iaload, 1) := by decide +kernel
theorem dX7_judge_33 : decode cX7_judge 33 = .ok (.aload_n 0, 1) := by decide +kernel
theorem dX7_judge_34 : decode cX7_judge 34 = .ok (.getfield 80, 3) := by decide +kernel
theorem dX7_judge_37 : decode cX7_judge 37 = .ok (.iload_n 1, 1) := by decide +kernel
theorem dX7_judge_38 : decode cX7_judge 38 = .ok (.iaload, 1) := by decide +kernel
theorem dX7_judge_39 : decode cX7_judge 39 = .ok (.invokevirtual 272, 3) := by decide +kernel
theorem dX7_judge_42 : decode cX7_judge 42 = .ok (.istore_n 2, 1) := by decide +kernel
theorem dX7_judge_43 : decode cX7_judge 43 = .ok (.iload_n 2, 1) := by decide +kernel
theorem dX7_judge_44 : decode cX7_judge 44 = .ok (.aload_n 0, 1) := by decide +kernel
theorem dX7_judge_45 : decode cX7_judge 45 = .ok (.getfield 74, 3) := by decide +kernel
theorem dX7_judge_48 : decode cX7_judge 48 = .ok (.iload_n 1, 1) := by decide +kernel
theorem dX7_judge_49 : decode cX7_judge 49 = .ok (.iaload, 1) := by decide +kernel
theorem dX7_judge_50 : decode cX7_judge 50 = .ok (.invokestatic 261, 3) := by decide +kernel
theorem dX7_judge_53 : decode cX7_judge 53 = .ok (.ifCond .ne 5, 3) := by decide +kernel
theorem dX7_judge_56 : decode cX7_judge 56 = .ok (.iload_n 1, 1) := by decide +kernel
theorem dX7_judge_57 : decode cX7_judge 57 = .ok (.ireturn, 1) := by decide +kernel
theorem dX7_judge_58 : decode cX7_judge 58 = .ok (.iinc 1 1, 3) := by decide +kernel
theorem dX7_judge_61 : decode cX7_judge 61 = .ok (.goto (-59), 3) := by decide +kernel
theorem dX7_judge_64 : decode cX7_judge 64 = .ok (.iconst (-1), 1) := by decide +kernel
theorem dX7_judge_65 : decode cX7_judge 65 = .ok (.ireturn, 1) := by decide +kernel
theorem dX7_seed_0 : decode cX7_seed 0 = .ok (.iload_n 1, 1) := by decide +kernel
theorem dX7_seed_1 : decode cX7_seed 1 = .ok (.ifCond .ge 6, 3) := by decide +kernel
theorem dX7_seed_4 : decode cX7_seed 4 = .ok (.ldc 108, 2) := by decide +kernel
theorem dX7_seed_6 : decode cX7_seed 6 = .ok (.ireturn, 1) := by decide +kernel
theorem dX7_seed_7 : decode cX7_seed 7 = .ok (.aload_n 0, 1) := by decide +kernel
theorem dX7_seed_8 : decode cX7_seed 8 = .ok (.getfield 308, 3) := by decide +kernel
theorem dX7_seed_11 : decode cX7_seed 11 = .ok (.istore_n 2, 1) := by decide +kernel
theorem dX7_seed_12 : decode cX7_seed 12 = .ok (.aload_n 0, 1) := by decide +kernel
theorem dX7_seed_13 : decode cX7_seed 13 = .ok (.iload_n 1, 1) := by decide +kernel
theorem dX7_seed_14 : decode cX7_seed 14 = .ok (.putfield 308, 3) := by decide +kernel
theorem dX7_seed_17 : decode cX7_seed 17 = .ok (.iload_n 2, 1) := by decide +kernel
theorem dX7_seed_18 : decode cX7_seed 18 = .ok (.ireturn, 1) := by decide +kernel
set_option maxRecDepth 20000 in
theorem ggX7_keep_X7_in : GoodIn wsX7_keep wsX7_in := goodIn_r _ [13] (by decide +kernel) (by decide +kernel)
set_option maxRecDepth 20000 in
theorem gX7_keep_X7_in : GoodIn wsX7_keep (va_wsS RX7 93 yX7_in wsX7_in) := goodIn_app (goodIn_of _ (by decide +kernel)) ggX7_keep_X7_in
theorem dX7_keep_0 : decode cX7_keep 0 = .ok (.iload_n 1, 1) := by decide +kernel
theorem dX7_keep_1 : decode cX7_keep 1 = .ok (.i2l, 1) := by decide +kernel
theorem dX7_keep_2 : decode cX7_keep 2 = .ok (.lconst 0, 1) := by decide +kernel
theorem dX7_keep_3 : decode cX7_keep 3 = .ok (.lconst 1, 1) := by decide +kernel
theorem dX7_keep_4 : decode cX7_keep 4 = .ok (.invokestatic 93, 3) := by decide +kernel
theorem dX7_keep_7 : decode cX7_keep 7 = .ok (.ifCond .ne 7, 3) := by decide +kernel
theorem dX7_keep_10 : decode cX7_keep 10 = .ok (.ldc_w 284, 3) := by decide +kernel
theorem dX7_keep_13 : decode cX7_keep 13 = .ok (.ireturn, 1) := by decide +kernel
theorem dX7_keep_14 : decode cX7_keep 14 = .ok (.bipush 80, 2) := by decide +kernel
theorem dX7_keep_16 : decode cX7_keep 16 = .ok (.iload_n 1, 1) := by decide +kernel
theorem dX7_keep_17 : decode cX7_keep 17 = .ok (.imul, 1) := by decide +kernel
theorem dX7_keep_18 : decode cX7_keep 18 = .ok (.istore_n 2, 1) := by decide +kernel
theorem dX7_keep_19 : decode cX7_keep 19 = .ok (.iconst 0, 1) := by decide +kernel
theorem dX7_keep_20 : decode cX7_keep 20 = .ok (.istore_n 3, 1) := by decide +kernel
theorem dX7_keep_21 : decode cX7_keep 21 = .ok (.iload_n 3, 1) := by decide +kernel
theorem dX7_keep_22 : decode cX7_keep 22 = .ok (.bipush 6, 2) := by decide +kernel
theorem dX7_keep_24 : decode cX7_keep 24 = .ok (.if_icmp .ge 40, 3) := by decide +kernel
theorem dX7_keep_27 : decode cX7_keep 27 = .ok (.aload_n 0, 1) := by decide +kernel
theorem dX7_keep_28 : decode cX7_keep 28 = .ok (.getfield 83, 3) := by decide +kernel
theorem dX7_keep_31 : decode cX7_keep 31 = .ok (.iload_n 2, 1) := by decide +kernel
theorem dX7_keep_32 : decode cX7_keep 32 = .ok (.iload_n 3, 1) := by decide +kernel
theorem dX7_keep_33 : decode cX7_keep 33 = .ok (.iadd, 1) := by decide +kernel
theorem dX7_keep_34 : decode cX7_keep 34 = .ok (.aload_n 0, 1) := by decide +kernel
theorem dX7_keep_35 : decode cX7_keep 35 = .ok (.getfield 35, 3) := by decide +kernel
theorem dX7_keep_38 : decode cX7_keep 38 = .ok (.iload_n 3, 1) := by decide +kernel
theorem dX7_keep_39 : decode cX7_keep 39 = .ok (.iaload, 1) := by decide +kernel
theorem dX7_keep_40 : decode cX7_keep 40 = .ok (.iastore, 1) := by decide +kernel
theorem dX7_keep_41 : decode cX7_keep 41 = .ok (.aload_n 0, 1) := by decide +kernel
theorem dX7_keep_42 : decode cX7_keep 42 = .ok (.getfield 83, 3) := by decide +kernel
theorem dX7_keep_45 : decode cX7_keep 45 = .ok (.iload_n 2, 1) := by decide +kernel
theorem dX7_keep_46 : decode cX7_keep 46 = .ok (.bipush 6, 2) := by decide +kernel
theorem dX7_keep_48 : decode cX7_keep 48 = .ok (.iadd, 1) := by decide +kernel
theorem dX7_keep_49 : decode cX7_keep 49 = .ok (.iload_n 3, 1) := by decide +kernel
theorem dX7_keep_50 : decode cX7_keep 50 = .ok (.iadd, 1) := by decide +kernel
theorem dX7_keep_51 : decode cX7_keep 51 = .ok (.aload_n 0, 1) := by decide +kernel
theorem dX7_keep_52 : decode cX7_keep 52 = .ok (.getfield 38, 3) := by decide +kernel
theorem dX7_keep_55 : decode cX7_keep 55 = .ok (.iload_n 3, 1) := by decide +kernel
theorem dX7_keep_56 : decode cX7_keep 56 = .ok (.iaload, 1) := by decide +kernel
theorem dX7_keep_57 : decode cX7_keep 57 = .ok (.iastore, 1) := by decide +kernel
theorem dX7_keep_58 : decode cX7_keep 58 = .ok (.iinc 3 1, 3) := by decide +kernel
theorem dX7_keep_61 : decode cX7_keep 61 = .ok (.goto (-40), 3) := by decide +kernel
theorem dX7_keep_64 : decode cX7_keep 64 = .ok (.iconst 0, 1) := by decide +kernel
theorem dX7_keep_65 : decode cX7_keep 65 = .ok (.istore_n 3, 1) := by decide +kernel
theorem dX7_keep_66 : decode cX7_keep 66 = .ok (.iload_n 3, 1) := by decide +kernel
theorem dX7_keep_67 : decode cX7_keep 67 = .ok (.bipush 60, 2) := by decide +kernel
theorem dX7_keep_69 : decode cX7_keep 69 = .ok (.if_icmp .ge 26, 3) := by decide +kernel
theorem dX7_keep_72 : decode cX7_keep 72 = .ok (.aload_n 0, 1) := by decide +kernel
theorem dX7_keep_73 : decode cX7_keep 73 = .ok (.getfield 83, 3) := by decide +kernel
theorem dX7_keep_76 : decode cX7_keep 76 = .ok (.iload_n 2, 1) := by decide +kernel
theorem dX7_keep_77 : decode cX7_keep 77 = .ok (.bipush 12, 2) := by decide +kernel
theorem dX7_keep_79 : decode cX7_keep 79 = .ok (.iadd, 1) := by decide +kernel
theorem dX7_keep_80 : decode cX7_keep 80 = .ok (.iload_n 3, 1) := by decide +kernel
theorem dX7_keep_81 : decode cX7_keep 81 = .ok (.iadd, 1) := by decide +kernel
theorem dX7_keep_82 : decode cX7_keep 82 = .ok (.aload_n 0, 1) := by decide +kernel
theorem dX7_keep_83 : decode cX7_keep 83 = .ok (.getfield 41, 3) := by decide +kernel
theorem dX7_keep_86 : decode cX7_keep 86 = .ok (.iload_n 3, 1) := by decide +kernel
theorem dX7_keep_87 : decode cX7_keep 87 = .ok (.iaload, 1) := by decide +kernel
theorem dX7_keep_88 : decode cX7_keep 88 = .ok (.iastore, 1) := by decide +kernel
theorem dX7_keep_89 : decode cX7_keep 89 = .ok (.iinc 3 1, 3) := by decide +kernel
theorem dX7_keep_92 : decode cX7_keep 92 = .ok (.goto (-26), 3) := by decide +kernel
theorem dX7_keep_95 : decode cX7_keep 95 = .ok (.aload_n 0, 1) := by decide +kernel
theorem dX7_keep_96 : decode cX7_keep 96 = .ok (.getfield 83, 3) := by decide +kernel
theorem dX7_keep_99 : decode cX7_keep 99 = .ok (.iload_n 2, 1) := by decide +kernel
theorem dX7_keep_100 : decode cX7_keep 100 = .ok (.bipush 72, 2) := by decide +kernel
theorem dX7_keep_102 : decode cX7_keep 102 = .ok (.iadd, 1) := by decide +kernel
theorem dX7_keep_103 : decode cX7_keep 103 = .ok (.aload_n 0, 1) := by decide +kernel
theorem dX7_keep_104 : decode cX7_keep 104 = .ok (.getfield 103, 3) := by decide +kernel
theorem dX7_keep_107 : decode cX7_keep 107 = .ok (.iastore, 1) := by decide +kernel
theorem dX7_keep_108 : decode cX7_keep 108 = .ok (.aload_n 0, 1) := by decide +kernel
theorem dX7_keep_109 : decode cX7_keep 109 = .ok (.getfield 83, 3) := by decide +kernel
theorem dX7_keep_112 : decode cX7_keep 112 = .ok (.iload_n 2, 1) := by decide +kernel
theorem dX7_keep_113 : decode cX7_keep 113 = .ok (.bipush 73, 2) := by decide +kernel
theorem dX7_keep_115 : decode cX7_keep 115 = .ok (.iadd, 1) := by decide +kernel
theorem dX7_keep_116 : decode cX7_keep 116 = .ok (.aload_n 0, 1) := by decide +kernel
theorem dX7_keep_117 : decode cX7_keep 117 = .ok (.getfield 235, 3) := by decide +kernel
theorem dX7_keep_120 : decode cX7_keep 120 = .ok (.iastore, 1) := by decide +kernel
theorem dX7_keep_121 : decode cX7_keep 121 = .ok (.aload_n 0, 1) := by decide +kernel
theorem dX7_keep_122 : decode cX7_keep 122 = .ok (.getfield 83, 3) := by decide +kernel
theorem dX7_keep_125 : decode cX7_keep 125 = .ok (.iload_n 2, 1) := by decide +kernel
theorem dX7_keep_126 : decode cX7_keep 126 = .ok (.bipush 74, 2) := by decide +kernel
theorem dX7_keep_128 : decode cX7_keep 128 = .ok (.iadd, 1) := by decide +kernel
theorem dX7_keep_129 : decode cX7_keep 129 = .ok (.aload_n 0, 1) := by decide +kernel
theorem dX7_keep_130 : decode cX7_keep 130 = .ok (.getfield 308, 3) := by decide +kernel
theorem dX7_keep_133 : decode cX7_keep 133 = .ok (.iastore, 1) := by decide +kernel
theorem dX7_keep_134 : decode cX7_keep 134 = .ok (.aload_n 0, 1) := by decide +kernel
theorem dX7_keep_135 : decode cX7_keep 135 = .ok (.getfield 86, 3) := by decide +kernel
theorem dX7_keep_138 : decode cX7_keep 138 = .ok (.iload_n 1, 1) := by decide +kernel
theorem dX7_keep_139 : decode cX7_keep 139 = .ok (.iconst 1, 1) := by decide +kernel
theorem dX7_keep_140 : decode cX7_keep 140 = .ok (.bastore, 1) := by decide +kernel
theorem dX7_keep_141 : decode cX7_keep 141 = .ok (.iconst 1, 1) := by decide +kernel
theorem dX7_keep_142 : decode cX7_keep 142 = .ok (.ireturn, 1) := by decide +kernel
set_option maxRecDepth 20000 in
theorem ggX7_goBack_X7_in : GoodIn wsX7_goBack wsX7_in := goodIn_r _ [14] (by decide +kernel) (by decide +kernel)
set_option maxRecDepth 20000 in
theorem gX7_goBack_X7_in : GoodIn wsX7_goBack (va_wsS RX7 93 yX7_in wsX7_in) := goodIn_app (goodIn_of _ (by decide +kernel)) ggX7_goBack_X7_in
theorem dX7_goBack_0 : decode cX7_goBack 0 = .ok (.iload_n 1, 1) := by decide +kernel
theorem dX7_goBack_1 : decode cX7_goBack 1 = .ok (.i2l, 1) := by decide +kernel
theorem dX7_goBack_2 : decode cX7_goBack 2 = .ok (.lconst 0, 1) := by decide +kernel
theorem dX7_goBack_3 : decode cX7_goBack 3 = .ok (.lconst 1, 1) := by decide +kernel
theorem dX7_goBack_4 : decode cX7_goBack 4 = .ok (.invokestatic 93, 3) := by decide +kernel
theorem dX7_goBack_7 : decode cX7_goBack 7 = .ok (.ifCond .ne 7, 3) := by decide +kernel
theorem dX7_goBack_10 : decode cX7_goBack 10 = .ok (.ldc_w 284, 3) := by decide +kernel
theorem dX7_goBack_13 : decode cX7_goBack 13 = .ok (.ireturn, 1) := by decide +kernel
theorem dX7_goBack_14 : decode cX7_goBack 14 = .ok (.aload_n 0, 1) := by decide +kernel
theorem dX7_goBack_15 : decode cX7_goBack 15 = .ok (.getfield 86, 3) := by decide +kernel
theorem dX7_goBack_18 : decode cX7_goBack 18 = .ok (.iload_n 1, 1) := by decide +kernel
theorem dX7_goBack_19 : decode cX7_goBack 19 = .ok (.baload, 1) := by decide +kernel
theorem dX7_goBack_20 : decode cX7_goBack 20 = .ok (.ifCond .ne 7, 3) := by decide +kernel
theorem dX7_goBack_23 : decode cX7_goBack 23 = .ok (.ldc_w 298, 3) := by decide +kernel
theorem dX7_goBack_26 : decode cX7_goBack 26 = .ok (.ireturn, 1) := by decide +kernel
theorem dX7_goBack_27 : decode cX7_goBack 27 = .ok (.bipush 80, 2) := by decide +kernel
theorem dX7_goBack_29 : decode cX7_goBack 29 = .ok (.iload_n 1, 1) := by decide +kernel
theorem dX7_goBack_30 : decode cX7_goBack 30 = .ok (.imul, 1) := by decide +kernel
theorem dX7_goBack_31 : decode cX7_goBack 31 = .ok (.istore_n 2, 1) := by decide +kernel
theorem dX7_goBack_32 : decode cX7_goBack 32 = .ok (.iconst 0, 1) := by decide +kernel
theorem dX7_goBack_33 : decode cX7_goBack 33 = .ok (.istore_n 3, 1) := by decide +kernel
theorem dX7_goBack_34 : decode cX7_goBack 34 = .ok (.iload_n 3, 1) := by decide +kernel
theorem dX7_goBack_35 : decode cX7_goBack 35 = .ok (.bipush 6, 2) := by decide +kernel
theorem dX7_goBack_37 : decode cX7_goBack 37 = .ok (.if_icmp .ge 40, 3) := by decide +kernel
theorem dX7_goBack_40 : decode cX7_goBack 40 = .ok (.aload_n 0, 1) := by decide +kernel
theorem dX7_goBack_41 : decode cX7_goBack 41 = .ok (.getfield 35, 3) := by decide +kernel
theorem dX7_goBack_44 : decode cX7_goBack 44 = .ok (.iload_n 3, 1) := by decide +kernel
theorem dX7_goBack_45 : decode cX7_goBack 45 = .ok (.aload_n 0, 1) := by decide +kernel
theorem dX7_goBack_46 : decode cX7_goBack 46 = .ok (.getfield 83, 3) := by decide +kernel
theorem dX7_goBack_49 : decode cX7_goBack 49 = .ok (.iload_n 2, 1) := by decide +kernel
theorem dX7_goBack_50 : decode cX7_goBack 50 = .ok (.iload_n 3, 1) := by decide +kernel
theorem dX7_goBack_51 : decode cX7_goBack 51 = .ok (.iadd, 1) := by decide +kernel
theorem dX7_goBack_52 : decode cX7_goBack 52 = .ok (.iaload, 1) := by decide +kernel
theorem dX7_goBack_53 : decode cX7_goBack 53 = .ok (.iastore, 1) := by decide +kernel
theorem dX7_goBack_54 : decode cX7_goBack 54 = .ok (.aload_n 0, 1) := by decide +kernel
theorem dX7_goBack_55 : decode cX7_goBack 55 = .ok (.getfield 38, 3) := by decide +kernel
theorem dX7_goBack_58 : decode cX7_goBack 58 = .ok (.iload_n 3, 1) := by decide +kernel
theorem dX7_goBack_59 : decode cX7_goBack 59 = .ok (.aload_n 0, 1) := by decide +kernel
theorem dX7_goBack_60 : decode cX7_goBack 60 = .ok (.getfield 83, 3) := by decide +kernel
theorem dX7_goBack_63 : decode cX7_goBack 63 = .ok (.iload_n 2, 1) := by decide +kernel
theorem dX7_goBack_64 : decode cX7_goBack 64 = .ok (.bipush 6, 2) := by decide +kernel
theorem dX7_goBack_66 : decode cX7_goBack 66 = .ok (.iadd, 1) := by decide +kernel
theorem dX7_goBack_67 : decode cX7_goBack 67 = .ok (.iload_n 3, 1) := by decide +kernel
theorem dX7_goBack_68 : decode cX7_goBack 68 = .ok (.iadd, 1) := by decide +kernel
theorem dX7_goBack_69 : decode cX7_goBack 69 = .ok (.iaload, 1) := by decide +kernel
theorem dX7_goBack_70 : decode cX7_goBack 70 = .ok (.iastore, 1) := by decide +kernel
theorem dX7_goBack_71 : decode cX7_goBack 71 = .ok (.iinc 3 1, 3) := by decide +kernel
theorem dX7_goBack_74 : decode cX7_goBack 74 = .ok (.goto (-40), 3) := by decide +kernel
theorem dX7_goBack_77 : decode cX7_goBack 77 = .ok (.iconst 0, 1) := by decide +kernel
theorem dX7_goBack_78 : decode cX7_goBack 78 = .ok (.istore_n 3, 1) := by decide +kernel
theorem dX7_goBack_79 : decode cX7_goBack 79 = .ok (.iload_n 3, 1) := by decide +kernel
theorem dX7_goBack_80 : decode cX7_goBack 80 = .ok (.bipush 60, 2) := by decide +kernel
theorem dX7_goBack_82 : decode cX7_goBack 82 = .ok (.if_icmp .ge 26, 3) := by decide +kernel
theorem dX7_goBack_85 : decode cX7_goBack 85 = .ok (.aload_n 0, 1) := by decide +kernel
theorem dX7_goBack_86 : decode cX7_goBack 86 = .ok (.getfield 41, 3) := by decide +kernel
theorem dX7_goBack_89 : decode cX7_goBack 89 = .ok (.iload_n 3, 1) := by decide +kernel
theorem dX7_goBack_90 : decode cX7_goBack 90 = .ok (.aload_n 0, 1) := by decide +kernel
theorem dX7_goBack_91 : decode cX7_goBack 91 = .ok (.getfield 83, 3) := by decide +kernel
theorem dX7_goBack_94 : decode cX7_goBack 94 = .ok (.iload_n 2, 1) := by decide +kernel
theorem dX7_goBack_95 : decode cX7_goBack 95 = .ok (.bipush 12, 2) := by decide +kernel
theorem dX7_goBack_97 : decode cX7_goBack 97 = .ok (.iadd, 1) := by decide +kernel
theorem dX7_goBack_98 : decode cX7_goBack 98 = .ok (.iload_n 3, 1) := by decide +kernel
theorem dX7_goBack_99 : decode cX7_goBack 99 = .ok (.iadd, 1) := by decide +kernel
theorem dX7_goBack_100 : decode cX7_goBack 100 = .ok (.iaload, 1) := by decide +kernel
theorem dX7_goBack_101 : decode cX7_goBack 101 = .ok (.iastore, 1) := by decide +kernel
theorem dX7_goBack_102 : decode cX7_goBack 102 = .ok (.iinc 3 1, 3) := by decide +kernel
theorem dX7_goBack_105 : decode cX7_goBack 105 = .ok (.goto (-26), 3) := by decide +kernel
theorem dX7_goBack_108 : decode cX7_goBack 108 = .ok (.aload_n 0, 1) := by decide +kernel
theorem dX7_goBack_109 : decode cX7_goBack 109 = .ok (.aload_n 0, 1) := by decide +kernel
theorem dX7_goBack_110 : decode cX7_goBack 110 = .ok (.getfield 83, 3) := by decide +kernel
theorem dX7_goBack_113 : decode cX7_goBack 113 = .ok (.iload_n 2, 1) := by decide +kernel
theorem dX7_goBack_114 : decode cX7_goBack 114 = .ok (.bipush 72, 2) := by decide +kernel
theorem dX7_goBack_116 : decode cX7_goBack 116 = .ok (.iadd, 1) := by decide +kernel
theorem dX7_goBack_117 : decode cX7_goBack 117 = .ok (.iaload, 1) := by decide +kernel
theorem dX7_goBack_118 : decode cX7_goBack 118 = .ok (.putfield 103, 3) := by decide +kernel
theorem dX7_goBack_121 : decode cX7_goBack 121 = .ok (.aload_n 0, 1) := by decide +kernel
theorem dX7_goBack_122 : decode cX7_goBack 122 = .ok (.aload_n 0, 1) := by decide +kernel
theorem dX7_goBack_123 : decode cX7_goBack 123 = .ok (.getfield 83, 3) := by decide +kernel
theorem dX7_goBack_126 : decode cX7_goBack 126 = .ok (.iload_n 2, 1) := by decide +kernel
theorem dX7_goBack_127 : decode cX7_goBack 127 = .ok (.bipush 73, 2) := by decide +kernel
theorem dX7_goBack_129 : decode cX7_goBack 129 = .ok (.iadd, 1) := by decide +kernel
theorem dX7_goBack_130 : decode cX7_goBack 130 = .ok (.iaload, 1) := by decide +kernel
theorem dX7_goBack_131 : decode cX7_goBack 131 = .ok (.putfield 235, 3) := by decide +kernel
theorem dX7_goBack_134 : decode cX7_goBack 134 = .ok (.aload_n 0, 1) := by decide +kernel
theorem dX7_goBack_135 : decode cX7_goBack 135 = .ok (.aload_n 0, 1) := by decide +kernel
theorem dX7_goBack_136 : decode cX7_goBack 136 = .ok (.getfield 83, 3) := by decide +kernel
theorem dX7_goBack_139 : decode cX7_goBack 139 = .ok (.iload_n 2, 1) := by decide +kernel
theorem dX7_goBack_140 : decode cX7_goBack 140 = .ok (.bipush 74, 2) := by decide +kernel
theorem dX7_goBack_142 : decode cX7_goBack 142 = .ok (.iadd, 1) := by decide +kernel
theorem dX7_goBack_143 : decode cX7_goBack 143 = .ok (.iaload, 1) := by decide +kernel
theorem dX7_goBack_144 : decode cX7_goBack 144 = .ok (.putfield 308, 3) := by decide +kernel
theorem dX7_goBack_147 : decode cX7_goBack 147 = .ok (.iconst 1, 1) := by decide +kernel
theorem dX7_goBack_148 : decode cX7_goBack 148 = .ok (.ireturn, 1) := by decide +kernel
theorem dJ6_bitCount_0f7a4_0 : decode cJ6_bitCount_0f7a4 0 = .ok (.iload_n 0, 1) := by decide +kernel
theorem dJ6_bitCount_0f7a4_1 : decode cJ6_bitCount_0f7a4 1 = .ok (.iload_n 0, 1) := by decide +kernel
theorem dJ6_bitCount_0f7a4_2 : decode cJ6_bitCount_0f7a4 2 = .ok (.iconst 1, 1) := by decide +kernel
theorem dJ6_bitCount_0f7a4_3 : decode cJ6_bitCount_0f7a4 3 = .ok (.iushr, 1) := by decide +kernel
theorem dJ6_bitCount_0f7a4_4 : decode cJ6_bitCount_0f7a4 4 = .ok (.ldc_w 265, 3) := by decide +kernel
theorem dJ6_bitCount_0f7a4_7 : decode cJ6_bitCount_0f7a4 7 = .ok (.iand, 1) := by decide +kernel
theorem dJ6_bitCount_0f7a4_8 : decode cJ6_bitCount_0f7a4 8 = .ok (.isub, 1) := by decide +kernel
theorem dJ6_bitCount_0f7a4_9 : decode cJ6_bitCount_0f7a4 9 = .ok (.istore_n 0, 1) := by decide +kernel
theorem dJ6_bitCount_0f7a4_10 : decode cJ6_bitCount_0f7a4 10 = .ok (.iload_n 0, 1) := by decide +kernel
theorem dJ6_bitCount_0f7a4_11 : decode cJ6_bitCount_0f7a4 11 = .ok (.ldc_w 266, 3) := by decide +kernel
theorem dJ6_bitCount_0f7a4_14 : decode cJ6_bitCount_0f7a4 14 = .ok (.iand, 1) := by decide +kernel
theorem dJ6_bitCount_0f7a4_15 : decode cJ6_bitCount_0f7a4 15 = .ok (.iload_n 0, 1) := by decide +kernel
theorem dJ6_bitCount_0f7a4_16 : decode cJ6_bitCount_0f7a4 16 = .ok (.iconst 2, 1) := by decide +kernel
theorem dJ6_bitCount_0f7a4_17 : decode cJ6_bitCount_0f7a4 17 = .ok (.iushr, 1) := by decide +kernel
theorem dJ6_bitCount_0f7a4_18 : decode cJ6_bitCount_0f7a4 18 = .ok (.ldc_w 266, 3) := by decide +kernel
theorem dJ6_bitCount_0f7a4_21 : decode cJ6_bitCount_0f7a4 21 = .ok (.iand, 1) := by decide +kernel
theorem dJ6_bitCount_0f7a4_22 : decode cJ6_bitCount_0f7a4 22 = .ok (.iadd, 1) := by decide +kernel
theorem dJ6_bitCount_0f7a4_23 : decode cJ6_bitCount_0f7a4 23 = .ok (.istore_n 0, 1) := by decide +kernel
theorem dJ6_bitCount_0f7a4_24 : decode cJ6_bitCount_0f7a4 24 = .ok (.iload_n 0, 1) := by decide +kernel
theorem dJ6_bitCount_0f7a4_25 : decode cJ6_bitCount_0f7a4 25 = .ok (.iload_n 0, 1) := by decide +kernel
