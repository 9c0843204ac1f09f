theorem dX6_view_15 : decode cX6_view 15 = .ok (.iload_n 2, 1) := by decide +kernel
theorem dX6_view_16 : decode cX6_view 16 = .ok (.iload_n 3, 1) := by decide +kernel
theorem dX6_view_17 : decode cX6_view 17 = .ok (.invokevirtual 130, 3) := by decide +kernel
theorem dX6_view_20 : decode cX6_view 20 = .ok (.ifCond .ne 6, 3) := by decide +kernel
theorem dX6_view_23 : decode cX6_view 23 = .ok (.ldc 134, 2) := by decide +kernel
theorem dX6_view_25 : decode cX6_view 25 = .ok (.ireturn, 1) := by decide +kernel
theorem dX6_view_26 : decode cX6_view 26 = .ok (.aload_n 0, 1) := by decide +kernel
theorem dX6_view_27 : decode cX6_view 27 = .ok (.getfield 10, 3) := by decide +kernel
theorem dX6_view_30 : decode cX6_view 30 = .ok (.iload_n 2, 1) := by decide +kernel
theorem dX6_view_31 : decode cX6_view 31 = .ok (.iload_n 3, 1) := by decide +kernel
theorem dX6_view_32 : decode cX6_view 32 = .ok (.invokevirtual 135, 3) := by decide +kernel
theorem dX6_view_35 : decode cX6_view 35 = .ok (.istore 4, 2) := by decide +kernel
theorem dX6_view_37 : decode cX6_view 37 = .ok (.aload_n 0, 1) := by decide +kernel
theorem dX6_view_38 : decode cX6_view 38 = .ok (.getfield 26, 3) := by decide +kernel
theorem dX6_view_41 : decode cX6_view 41 = .ok (.getfield 139, 3) := by decide +kernel
theorem dX6_view_44 : decode cX6_view 44 = .ok (.iload 4, 2) := by decide +kernel
theorem dX6_view_46 : decode cX6_view 46 = .ok (.iaload, 1) := by decide +kernel
theorem dX6_view_47 : decode cX6_view 47 = .ok (.istore 5, 2) := by decide +kernel
theorem dX6_view_49 : decode cX6_view 49 = .ok (.aload_n 0, 1) := by decide +kernel
theorem dX6_view_50 : decode cX6_view 50 = .ok (.getfield 39, 3) := by decide +kernel
theorem dX6_view_53 : decode cX6_view 53 = .ok (.invokevirtual 145, 3) := by decide +kernel
theorem dX6_view_56 : decode cX6_view 56 = .ok (.aload_n 0, 1) := by decide +kernel
theorem dX6_view_57 : decode cX6_view 57 = .ok (.getfield 39, 3) := by decide +kernel
theorem dX6_view_60 : decode cX6_view 60 = .ok (.iload_n 1, 1) := by decide +kernel
theorem dX6_view_61 : decode cX6_view 61 = .ok (.invokevirtual 187, 3) := by decide +kernel
theorem dX6_view_64 : decode cX6_view 64 = .ok (.istore 6, 2) := by decide +kernel
theorem dX6_view_66 : decode cX6_view 66 = .ok (.aload_n 0, 1) := by decide +kernel
theorem dX6_view_67 : decode cX6_view 67 = .ok (.getfield 26, 3) := by decide +kernel
theorem dX6_view_70 : decode cX6_view 70 = .ok (.getfield 139, 3) := by decide +kernel
theorem dX6_view_73 : decode cX6_view 73 = .ok (.iload 4, 2) := by decide +kernel
theorem dX6_view_75 : decode cX6_view 75 = .ok (.iconst 0, 1) := by decide +kernel
theorem dX6_view_76 : decode cX6_view 76 = .ok (.iastore, 1) := by decide +kernel
theorem dX6_view_77 : decode cX6_view 77 = .ok (.aload_n 0, 1) := by decide +kernel
theorem dX6_view_78 : decode cX6_view 78 = .ok (.getfield 39, 3) := by decide +kernel
theorem dX6_view_81 : decode cX6_view 81 = .ok (.iload_n 2, 1) := by decide +kernel
theorem dX6_view_82 : decode cX6_view 82 = .ok (.iload_n 3, 1) := by decide +kernel
theorem dX6_view_83 : decode cX6_view 83 = .ok (.invokevirtual 230, 3) := by decide +kernel
theorem dX6_view_86 : decode cX6_view 86 = .ok (.aload_n 0, 1) := by decide +kernel
theorem dX6_view_87 : decode cX6_view 87 = .ok (.getfield 39, 3) := by decide +kernel
theorem dX6_view_90 : decode cX6_view 90 = .ok (.iload_n 1, 1) := by decide +kernel
theorem dX6_view_91 : decode cX6_view 91 = .ok (.invokevirtual 187, 3) := by decide +kernel
theorem dX6_view_94 : decode cX6_view 94 = .ok (.istore 7, 2) := by decide +kernel
theorem dX6_view_96 : decode cX6_view 96 = .ok (.aload_n 0, 1) := by decide +kernel
theorem dX6_view_97 : decode cX6_view 97 = .ok (.getfield 26, 3) := by decide +kernel
theorem dX6_view_100 : decode cX6_view 100 = .ok (.getfield 139, 3) := by decide +kernel
theorem dX6_view_103 : decode cX6_view 103 = .ok (.iload 4, 2) := by decide +kernel
theorem dX6_view_105 : decode cX6_view 105 = .ok (.iload 5, 2) := by decide +kernel
theorem dX6_view_107 : decode cX6_view 107 = .ok (.iastore, 1) := by decide +kernel
theorem dX6_view_108 : decode cX6_view 108 = .ok (.iload 7, 2) := by decide +kernel
theorem dX6_view_110 : decode cX6_view 110 = .ok (.iload 6, 2) := by decide +kernel
theorem dX6_view_112 : decode cX6_view 112 = .ok (.isub, 1) := by decide +kernel
theorem dX6_view_113 : decode cX6_view 113 = .ok (.ireturn, 1) := by decide +kernel
set_option maxRecDepth 20000 in
theorem ggX6_towers_X2_hasMan : GoodIn wsX6_towers wsX2_hasMan := goodIn_r _ [15, 16, 146, 147, 148, 149, 150, 151, 152, 153, 154, 155, 156, 157, 158, 159] (by decide +kernel) (by decide +kernel)
set_option maxRecDepth 20000 in
theorem gX6_towers_X2_hasMan : GoodIn wsX6_towers (wsV RX6 154 RX2 yX2_hasMan wsX2_hasMan) := goodIn_app (goodIn_of _ (by decide +kernel)) ggX6_towers_X2_hasMan
set_option maxRecDepth 20000 in
theorem ggX6_towers_X6_countEnds : GoodIn wsX6_towers wsX6_countEnds := goodIn_r _ [21, 4, 5, 22, 10, 1, 23, 24, 25, 26, 27, 28, 29, 30, 31, 32, 33, 34, 35, 36, 37, 38, 39, 40, 41, 42, 14, 43, 44, 45, 46, 47, 48, 49, 50, 51, 52, 53, 54, 55, 56, 57, 58, 8, 59, 60, 61, 62, 63, 64, 65, 66, 67, 68, 69, 70, 71, 72, 73, 74, 75, 76, 77, 78, 79, 80, 81, 82, 83, 84, 20, 85, 86, 87, 88, 89, 90, 91, 92, 93, 94, 95, 96, 97, 98, 99, 100, 101, 102, 103, 104, 105, 106, 107, 108, 109, 110, 111, 112, 113, 114, 115, 116, 117, 118, 119, 120, 121, 122, 123, 124, 125, 131, 132, 133, 134, 135, 136, 137, 138, 139, 140, 141, 142, 143, 144, 145, 146, 147, 148, 149, 150, 151, 152, 153, 154, 155, 156, 157, 158, 159, 160, 161, 162, 163, 164, 165, 166, 167] (by decide +kernel) (by decide +kernel)
set_option maxRecDepth 20000 in
theorem gX6_towers_X6_countEnds : GoodIn wsX6_towers (wsV RX6 238 RX6 yX6_countEnds wsX6_countEnds) := goodIn_app (goodIn_of _ (by decide +kernel)) ggX6_towers_X6_countEnds
set_option maxRecDepth 20000 in
theorem ggX6_towers_X6_takeMoveBack : GoodIn wsX6_towers wsX6_takeMoveBack := goodIn_r _ [129, 10, 130, 61, 8, 62, 6, 7, 9, 131, 132, 133, 134, 135, 136, 137, 138] (by decide +kernel) (by decide +kernel)
set_option maxRecDepth 20000 in
theorem gX6_towers_X6_takeMoveBack : GoodIn wsX6_towers (wsV RX6 242 RX6 yX6_takeMoveBack wsX6_takeMoveBack) := goodIn_app (goodIn_of _ (by decide +kernel)) ggX6_towers_X6_takeMoveBack
theorem dX6_towers_0 : decode cX6_towers 0 = .ok (.aload_n 0, 1) := by decide +kernel
theorem dX6_towers_1 : decode cX6_towers 1 = .ok (.getfield 10, 3) := by decide +kernel
theorem dX6_towers_4 : decode cX6_towers 4 = .ok (.iload_n 1, 1) := by decide +kernel
theorem dX6_towers_5 : decode cX6_towers 5 = .ok (.invokevirtual 154, 3) := by decide +kernel
theorem dX6_towers_8 : decode cX6_towers 8 = .ok (.ifCond .eq 19, 3) := by decide +kernel
theorem dX6_towers_11 : decode cX6_towers 11 = .ok (.aload_n 0, 1) := by decide +kernel
theorem dX6_towers_12 : decode cX6_towers 12 = .ok (.getfield 10, 3) := by decide +kernel
theorem dX6_towers_15 : decode cX6_towers 15 = .ok (.iload_n 2, 1) := by decide +kernel
theorem dX6_towers_16 : decode cX6_towers 16 = .ok (.invokevirtual 154, 3) := by decide +kernel
theorem dX6_towers_19 : decode cX6_towers 19 = .ok (.ifCond .eq 8, 3) := by decide +kernel
theorem dX6_towers_22 : decode cX6_towers 22 = .ok (.iload_n 1, 1) := by decide +kernel
theorem dX6_towers_23 : decode cX6_towers 23 = .ok (.iload_n 2, 1) := by decide +kernel
theorem dX6_towers_24 : decode cX6_towers 24 = .ok (.if_icmp .ne 6, 3) := by decide +kernel
theorem dX6_towers_27 : decode cX6_towers 27 = .ok (.ldc 134, 2) := by decide +kernel
theorem dX6_towers_29 : decode cX6_towers 29 = .ok (.ireturn, 1) := by decide +kernel
theorem dX6_towers_30 : decode cX6_towers 30 = .ok (.iload_n 3, 1) := by decide +kernel
theorem dX6_towers_31 : decode cX6_towers 31 = .ok (.ifCond .lt 33, 3) := by decide +kernel
theorem dX6_towers_34 : decode cX6_towers 34 = .ok (.iload_n 3, 1) := by decide +kernel
theorem dX6_towers_35 : decode cX6_towers 35 = .ok (.bipush 6, 2) := by decide +kernel
theorem dX6_towers_37 : decode cX6_towers 37 = .ok (.if_icmp .gt 27, 3) := by decide +kernel
theorem dX6_towers_40 : decode cX6_towers 40 = .ok (.iload 4, 2) := by decide +kernel
theorem dX6_towers_42 : decode cX6_towers 42 = .ok (.iconst 1, 1) := by decide +kernel
theorem dX6_towers_43 : decode cX6_towers 43 = .ok (.if_icmp .lt 21, 3) := by decide +kernel
theorem dX6_towers_46 : decode cX6_towers 46 = .ok (.iload 4, 2) := by decide +kernel
theorem dX6_towers_48 : decode cX6_towers 48 = .ok (.bipush 99, 2) := by decide +kernel
theorem dX6_towers_50 : decode cX6_towers 50 = .ok (.if_icmp .gt 14, 3) := by decide +kernel
theorem dX6_towers_53 : decode cX6_towers 53 = .ok (.iload 5, 2) := by decide +kernel
theorem dX6_towers_55 : decode cX6_towers 55 = .ok (.ifCond .lt 9, 3) := by decide +kernel
theorem dX6_towers_58 : decode cX6_towers 58 = .ok (.iload 5, 2) := by decide +kernel
theorem dX6_towers_60 : decode cX6_towers 60 = .ok (.iconst 1, 1) := by decide +kernel
theorem dX6_towers_61 : decode cX6_towers 61 = .ok (.if_icmp .le 6, 3) := by decide +kernel
theorem dX6_towers_64 : decode cX6_towers 64 = .ok (.ldc 61, 2) := by decide +kernel
theorem dX6_towers_66 : decode cX6_towers 66 = .ok (.ireturn, 1) := by decide +kernel
theorem dX6_towers_67 : decode cX6_towers 67 = .ok (.iload_n 3, 1) := by decide +kernel
theorem dX6_towers_68 : decode cX6_towers 68 = .ok (.iconst 1, 1) := by decide +kernel
theorem dX6_towers_69 : decode cX6_towers 69 = .ok (.iadd, 1) := by decide +kernel
theorem dX6_towers_70 : decode cX6_towers 70 = .ok (.iconst 2, 1) := by decide +kernel
theorem dX6_towers_71 : decode cX6_towers 71 = .ok (.idiv, 1) := by decide +kernel
theorem dX6_towers_72 : decode cX6_towers 72 = .ok (.bipush 9, 2) := by decide +kernel
theorem dX6_towers_74 : decode cX6_towers 74 = .ok (.aload_n 0, 1) := by decide +kernel
theorem dX6_towers_75 : decode cX6_towers 75 = .ok (.getfield 26, 3) := by decide +kernel
theorem dX6_towers_78 : decode cX6_towers 78 = .ok (.getfield 164, 3) := by decide +kernel
theorem dX6_towers_81 : decode cX6_towers 81 = .ok (.iload_n 1, 1) := by decide +kernel
theorem dX6_towers_82 : decode cX6_towers 82 = .ok (.iaload, 1) := by decide +kernel
theorem dX6_towers_83 : decode cX6_towers 83 = .ok (.isub, 1) := by decide +kernel
theorem dX6_towers_84 : decode cX6_towers 84 = .ok (.invokestatic 233, 3) := by decide +kernel
theorem dX6_towers_87 : decode cX6_towers 87 = .ok (.istore 6, 2) := by decide +kernel
theorem dX6_towers_89 : decode cX6_towers 89 = .ok (.iload_n 3, 1) := by decide +kernel
theorem dX6_towers_90 : decode cX6_towers 90 = .ok (.iconst 2, 1) := by decide +kernel
theorem dX6_towers_91 : decode cX6_towers 91 = .ok (.idiv, 1) := by decide +kernel
theorem dX6_towers_92 : decode cX6_towers 92 = .ok (.bipush 9, 2) := by decide +kernel
theorem dX6_towers_94 : decode cX6_towers 94 = .ok (.aload_n 0, 1) := by decide +kernel
theorem dX6_towers_95 : decode cX6_towers 95 = .ok (.getfield 26, 3) := by decide +kernel
theorem dX6_towers_98 : decode cX6_towers 98 = .ok (.getfield 164, 3) := by decide +kernel
theorem dX6_towers_101 : decode cX6_towers 101 = .ok (.iload_n 2, 1) := by decide +kernel
theorem dX6_towers_102 : decode cX6_towers 102 = .ok (.iaload, 1) := by decide +kernel
theorem dX6_towers_103 : decode cX6_towers 103 = .ok (.isub, 1) := by decide +kernel
theorem dX6_towers_104 : decode cX6_towers 104 = .ok (.invokestatic 233, 3) := by decide +kernel
theorem dX6_towers_107 : decode cX6_towers 107 = .ok (.istore 7, 2) := by decide +kernel
theorem dX6_towers_109 : decode cX6_towers 109 = .ok (.aload_n 0, 1) := by decide +kernel
theorem dX6_towers_110 : decode cX6_towers 110 = .ok (.iload_n 1, 1) := by decide +kernel
theorem dX6_towers_111 : decode cX6_towers 111 = .ok (.iload_n 2, 1) := by decide +kernel
theorem dX6_towers_112 : decode cX6_towers 112 = .ok (.iload 4, 2) := by decide +kernel
theorem dX6_towers_114 : decode cX6_towers 114 = .ok (.iload 6, 2) := by decide +kernel
theorem dX6_towers_116 : decode cX6_towers 116 = .ok (.iload 7, 2) := by decide +kernel
theorem dX6_towers_118 : decode cX6_towers 118 = .ok (.invokevirtual 238, 3) := by decide +kernel
theorem dX6_towers_121 : decode cX6_towers 121 = .ok (.iload_n 3, 1) := by decide +kernel
theorem dX6_towers_122 : decode cX6_towers 122 = .ok (.iconst 1, 1) := by decide +kernel
theorem dX6_towers_123 : decode cX6_towers 123 = .ok (.isub, 1) := by decide +kernel
theorem dX6_towers_124 : decode cX6_towers 124 = .ok (.istore 8, 2) := by decide +kernel
theorem dX6_towers_126 : decode cX6_towers 126 = .ok (.iload 8, 2) := by decide +kernel
theorem dX6_towers_128 : decode cX6_towers 128 = .ok (.ifCond .le 29, 3) := by decide +kernel
theorem dX6_towers_131 : decode cX6_towers 131 = .ok (.aload_n 0, 1) := by decide +kernel
theorem dX6_towers_132 : decode cX6_towers 132 = .ok (.iload 8, 2) := by decide +kernel
theorem dX6_towers_134 : decode cX6_towers 134 = .ok (.iconst 2, 1) := by decide +kernel
theorem dX6_towers_135 : decode cX6_towers 135 = .ok (.irem, 1) := by decide +kernel
theorem dX6_towers_136 : decode cX6_towers 136 = .ok (.ifCond .ne 7, 3) := by decide +kernel
theorem dX6_towers_139 : decode cX6_towers 139 = .ok (.iconst 1, 1) := by decide +kernel
theorem dX6_towers_140 : decode cX6_towers 140 = .ok (.goto 4, 3) := by decide +kernel
theorem dX6_towers_143 : decode cX6_towers 143 = .ok (.iconst 0, 1) := by decide +kernel
theorem dX6_towers_144 : decode cX6_towers 144 = .ok (.iload 6, 2) := by decide +kernel
theorem dX6_towers_146 : decode cX6_towers 146 = .ok (.iload 7, 2) := by decide +kernel
theorem dX6_towers_148 : decode cX6_towers 148 = .ok (.invokevirtual 242, 3) := by decide +kernel
theorem dX6_towers_151 : decode cX6_towers 151 = .ok (.iinc 8 (-1), 3) := by decide +kernel
theorem dX6_towers_154 : decode cX6_towers 154 = .ok (.goto (-28), 3) := by decide +kernel
theorem dX6_towers_157 : decode cX6_towers 157 = .ok (.aload_n 0, 1) := by decide +kernel
theorem dX6_towers_158 : decode cX6_towers 158 = .ok (.getfield 57, 3) := by decide +kernel
theorem dX6_towers_161 : decode cX6_towers 161 = .ok (.iconst 0, 1) := by decide +kernel
theorem dX6_towers_162 : decode cX6_towers 162 = .ok (.iaload, 1) := by decide +kernel
theorem dX6_towers_163 : decode cX6_towers 163 = .ok (.istore 8, 2) := by decide +kernel
theorem dX6_towers_165 : decode cX6_towers 165 = .ok (.iload 6, 2) := by decide +kernel
theorem dX6_towers_167 : decode cX6_towers 167 = .ok (.ifCond .le 18, 3) := by decide +kernel
theorem dX6_towers_170 : decode cX6_towers 170 = .ok (.aload_n 0, 1) := by decide +kernel
theorem dX6_towers_171 : decode cX6_towers 171 = .ok (.getfield 57, 3) := by decide +kernel
theorem dX6_towers_174 : decode cX6_towers 174 = .ok (.iconst 4, 1) := by decide +kernel
theorem dX6_towers_175 : decode cX6_towers 175 = .ok (.iaload, 1) := by decide +kernel
theorem dX6_towers_176 : decode cX6_towers 176 = .ok (.iload 8, 2) := by decide +kernel
theorem dX6_towers_178 : decode cX6_towers 178 = .ok (.if_icmp .le 7, 3) := by decide +kernel
theorem dX6_towers_181 : decode cX6_towers 181 = .ok (.iconst 1, 1) := by decide +kernel
theorem dX6_towers_182 : decode cX6_towers 182 = .ok (.goto 4, 3) := by decide +kernel
theorem dX6_towers_185 : decode cX6_towers 185 = .ok (.iconst 0, 1) := by decide +kernel
theorem dX6_towers_186 : decode cX6_towers 186 = .ok (.istore 9, 2) := by decide +kernel
theorem dX6_towers_188 : decode cX6_towers 188 = .ok (.iload 5, 2) := by decide +kernel
theorem dX6_towers_190 : decode cX6_towers 190 = .ok (.ifCond .ne 20, 3) := by decide +kernel
theorem dX6_towers_193 : decode cX6_towers 193 = .ok (.iload 9, 2) := by decide +kernel
theorem dX6_towers_195 : decode cX6_towers 195 = .ok (.ifCond .eq 12, 3) := by decide +kernel
theorem dX6_towers_198 : decode cX6_towers 198 = .ok (.aload_n 0, 1) := by decide +kernel
theorem dX6_towers_199 : decode cX6_towers 199 = .ok (.getfield 57, 3) := by decide +kernel
theorem dX6_towers_202 : decode cX6_towers 202 = .ok (.iconst 4, 1) := by decide +kernel
theorem dX6_towers_203 : decode cX6_towers 203 = .ok (.iaload, 1) := by decide +kernel
theorem dX6_towers_204 : decode cX6_towers 204 = .ok (.goto 5, 3) := by decide +kernel
theorem dX6_towers_207 : decode cX6_towers 207 = .ok (.iload 8, 2) := by decide +kernel
theorem dX6_towers_209 : decode cX6_towers 209 = .ok (.ireturn, 1) := by decide +kernel
theorem dX6_towers_210 : decode cX6_towers 210 = .ok (.iload_n 3, 1) := by decide +kernel
theorem dX6_towers_211 : decode cX6_towers 211 = .ok (.ifCond .ne 5, 3) := by decide +kernel
theorem dX6_towers_214 : decode cX6_towers 214 = .ok (.iconst (-1), 1) := by decide +kernel
theorem dX6_towers_215 : decode cX6_towers 215 = .ok (.ireturn, 1) := by decide +kernel
theorem dX6_towers_216 : decode cX6_towers 216 = .ok (.iload 9, 2) := by decide +kernel
theorem dX6_towers_218 : decode cX6_towers 218 = .ok (.ifCond .eq 7, 3) := by decide +kernel
theorem dX6_towers_221 : decode cX6_towers 221 = .ok (.iconst 1, 1) := by decide +kernel
theorem dX6_towers_222 : decode cX6_towers 222 = .ok (.goto 4, 3) := by decide +kernel
theorem dX6_towers_225 : decode cX6_towers 225 = .ok (.iconst 0, 1) := by decide +kernel
theorem dX6_towers_226 : decode cX6_towers 226 = .ok (.ireturn, 1) := by decide +kernel
set_option maxRecDepth 20000 in
theorem ggX6_boat_X2_hasMan : GoodIn wsX6_boat wsX2_hasMan := goodIn_r _ [13, 14, 149, 150, 151, 152, 153, 154, 155, 156, 157, 158, 159, 160, 161, 162] (by decide +kernel) (by decide +kernel)
set_option maxRecDepth 20000 in
theorem gX6_boat_X2_hasMan : GoodIn wsX6_boat (wsV RX6 154 RX2 yX2_hasMan wsX2_hasMan) := goodIn_app (goodIn_of _ (by decide +kernel)) ggX6_boat_X2_hasMan
set_option maxRecDepth 20000 in
theorem ggX6_boat_X4_lookAll : GoodIn wsX6_boat wsX4_lookAll := goodIn_r _ [19, 20, 21, 22, 23, 24, 25, 18, 26, 27, 28, 29, 30, 31, 32, 33, 12, 34, 35, 36, 37, 38, 39, 40, 41, 42, 43, 44, 45, 46, 47, 48, 49, 50, 51, 52, 53, 54, 55, 56, 57, 58, 59, 60, 61, 62, 63, 64, 65, 66, 67, 68, 69, 70, 71, 72, 73, 74, 75, 76, 77, 78, 79, 80, 81, 82, 163, 164, 165, 166, 167, 168, 169, 170, 149, 150, 151, 152, 153, 154, 155, 156, 157, 158, 159, 160, 161, 162, 171, 172, 173, 174, 175, 176, 177] (by decide +kernel) (by decide +kernel)
set_option maxRecDepth 20000 in
theorem gX6_boat_X4_lookAll : GoodIn wsX6_boat (wsV RX6 145 RX4 yX4_lookAll wsX4_lookAll) := goodIn_app (goodIn_of _ (by decide +kernel)) ggX6_boat_X4_lookAll
set_option maxRecDepth 20000 in
theorem ggX6_boat_X0_start : GoodIn wsX6_boat wsX0_start := goodIn_r _ [87, 88, 89, 90, 178, 179, 180, 181, 182] (by decide +kernel) (by decide +kernel)
set_option maxRecDepth 20000 in
theorem gX6_boat_X0_start : GoodIn wsX6_boat (wsV RX6 246 RX0 yX0_start wsX0_start) := goodIn_app (goodIn_of _ (by decide +kernel)) ggX6_boat_X0_start
set_option maxRecDepth 20000 in
theorem ggX6_boat_X2_numberOf : GoodIn wsX6_boat wsX2_numberOf := goodIn_r _ [74, 75, 149, 150, 151, 152, 153, 154, 155, 156, 157, 158, 159, 160, 161, 162] (by decide +kernel) (by decide +kernel)
set_option maxRecDepth 20000 in
theorem gX6_boat_X2_numberOf : GoodIn wsX6_boat (wsV RX6 135 RX2 yX2_numberOf wsX2_numberOf) := goodIn_app (goodIn_of _ (by decide +kernel)) ggX6_boat_X2_numberOf
set_option maxRecDepth 20000 in
theorem ggX6_boat_X4_catchOf : GoodIn wsX6_boat wsX4_catchOf := goodIn_r _ [95, 96, 97, 98, 18, 99, 20, 21, 27, 100, 71, 72, 73, 12, 74, 75, 101, 102, 103, 104, 22, 47, 52, 53, 50, 54, 105, 77, 106, 107, 108, 109, 110, 60, 61, 62, 63, 64, 65, 66, 111, 112, 113, 114, 115, 116, 117, 118, 119, 120, 121, 122, 163, 164, 165, 166, 167, 168, 169, 170, 171, 172, 173, 174, 175, 176, 177, 149, 150, 151, 152, 153, 154, 155, 156, 157, 158, 159, 160, 161, 162] (by decide +kernel) (by decide +kernel)
set_option maxRecDepth 20000 in
theorem gX6_boat_X4_catchOf : GoodIn wsX6_boat (wsV RX6 249 RX4 yX4_catchOf wsX4_catchOf) := goodIn_app (goodIn_of _ (by decide +kernel)) ggX6_boat_X4_catchOf
set_option maxRecDepth 20000 in
theorem ggX6_boat_X0_putCatch : GoodIn wsX6_boat wsX0_putCatch := goodIn_r _ [126, 127, 90, 128, 53, 50, 54, 178, 179, 180, 181, 182] (by decide +kernel) (by decide +kernel)
set_option maxRecDepth 20000 in
theorem gX6_boat_X0_putCatch : GoodIn wsX6_boat (wsV RX6 252 RX0 yX0_putCatch wsX0_putCatch) := goodIn_app (goodIn_of _ (by decide +kernel)) ggX6_boat_X0_putCatch
set_option maxRecDepth 20000 in
theorem ggX6_boat_X0_mostFish : GoodIn wsX6_boat wsX0_mostFish := goodIn_r _ [132, 133, 134, 135, 50, 136, 137, 138, 139, 86, 140, 88, 89, 127, 128, 53, 54, 90, 178, 179, 180, 181, 182] (by decide +kernel) (by decide +kernel)
set_option maxRecDepth 20000 in
theorem gX6_boat_X0_mostFish : GoodIn wsX6_boat (wsV RX6 255 RX0 yX0_mostFish wsX0_mostFish) := goodIn_app (goodIn_of _ (by decide +kernel)) ggX6_boat_X0_mostFish
theorem dX6_boat_0 : decode cX6_boat 0 = .ok (.aload_n 0, 1) := by decide +kernel
theorem dX6_boat_1 : decode cX6_boat 1 = .ok (.getfield 10, 3) := by decide +kernel
theorem dX6_boat_4 : decode cX6_boat 4 = .ok (.iload_n 1, 1) := by decide +kernel
theorem dX6_boat_5 : decode cX6_boat 5 = .ok (.invokevirtual 154, 3) := by decide +kernel
theorem dX6_boat_8 : decode cX6_boat 8 = .ok (.ifCond .ne 6, 3) := by decide +kernel
theorem dX6_boat_11 : decode cX6_boat 11 = .ok (.ldc 134, 2) := by decide +kernel
theorem dX6_boat_13 : decode cX6_boat 13 = .ok (.ireturn, 1) := by decide +kernel
theorem dX6_boat_14 : decode cX6_boat 14 = .ok (.iload_n 2, 1) := by decide +kernel
theorem dX6_boat_15 : decode cX6_boat 15 = .ok (.iconst 1, 1) := by decide +kernel
theorem dX6_boat_16 : decode cX6_boat 16 = .ok (.if_icmp .lt 9, 3) := by decide +kernel
theorem dX6_boat_19 : decode cX6_boat 19 = .ok (.iload_n 2, 1) := by decide +kernel
theorem dX6_boat_20 : decode cX6_boat 20 = .ok (.bipush 8, 2) := by decide +kernel
theorem dX6_boat_22 : decode cX6_boat 22 = .ok (.if_icmp .le 6, 3) := by decide +kernel
theorem dX6_boat_25 : decode cX6_boat 25 = .ok (.ldc 61, 2) := by decide +kernel
theorem dX6_boat_27 : decode cX6_boat 27 = .ok (.ireturn, 1) := by decide +kernel
theorem dX6_boat_28 : decode cX6_boat 28 = .ok (.aload_n 0, 1) := by decide +kernel
theorem dX6_boat_29 : decode cX6_boat 29 = .ok (.getfield 39, 3) := by decide +kernel
theorem dX6_boat_32 : decode cX6_boat 32 = .ok (.invokevirtual 145, 3) := by decide +kernel
theorem dX6_boat_35 : decode cX6_boat 35 = .ok (.aload_n 0, 1) := by decide +kernel
theorem dX6_boat_36 : decode cX6_boat 36 = .ok (.getfield 53, 3) := by decide +kernel
theorem dX6_boat_39 : decode cX6_boat 39 = .ok (.aload_n 0, 1) := by decide +kernel
theorem dX6_boat_40 : decode cX6_boat 40 = .ok (.getfield 10, 3) := by decide +kernel
theorem dX6_boat_43 : decode cX6_boat 43 = .ok (.getfield 102, 3) := by decide +kernel
theorem dX6_boat_46 : decode cX6_boat 46 = .ok (.aload_n 0, 1) := by decide +kernel
theorem dX6_boat_47 : decode cX6_boat 47 = .ok (.getfield 10, 3) := by decide +kernel
theorem dX6_boat_50 : decode cX6_boat 50 = .ok (.getfield 105, 3) := by decide +kernel
theorem dX6_boat_53 : decode cX6_boat 53 = .ok (.invokevirtual 246, 3) := by decide +kernel
theorem dX6_boat_56 : decode cX6_boat 56 = .ok (.iconst 0, 1) := by decide +kernel
theorem dX6_boat_57 : decode cX6_boat 57 = .ok (.istore_n 3, 1) := by decide +kernel
theorem dX6_boat_58 : decode cX6_boat 58 = .ok (.iload_n 3, 1) := by decide +kernel
theorem dX6_boat_59 : decode cX6_boat 59 = .ok (.aload_n 0, 1) := by decide +kernel
theorem dX6_boat_60 : decode cX6_boat 60 = .ok (.getfield 10, 3) := by decide +kernel
theorem dX6_boat_63 : decode cX6_boat 63 = .ok (.getfield 105, 3) := by decide +kernel
theorem dX6_boat_66 : decode cX6_boat 66 = .ok (.if_icmp .ge 58, 3) := by decide +kernel
theorem dX6_boat_69 : decode cX6_boat 69 = .ok (.iconst 0, 1) := by decide +kernel
theorem dX6_boat_70 : decode cX6_boat 70 = .ok (.istore 4, 2) := by decide +kernel
theorem dX6_boat_72 : decode cX6_boat 72 = .ok (.iload 4, 2) := by decide +kernel
theorem dX6_boat_74 : decode cX6_boat 74 = .ok (.aload_n 0, 1) := by decide +kernel
theorem dX6_boat_75 : decode cX6_boat 75 = .ok (.getfield 10, 3) := by decide +kernel
theorem dX6_boat_78 : decode cX6_boat 78 = .ok (.getfield 102, 3) := by decide +kernel
theorem dX6_boat_81 : decode cX6_boat 81 = .ok (.if_icmp .ge 37, 3) := by decide +kernel
theorem dX6_boat_84 : decode cX6_boat 84 = .ok (.aload_n 0, 1) := by decide +kernel
theorem dX6_boat_85 : decode cX6_boat 85 = .ok (.getfield 53, 3) := by decide +kernel
theorem dX6_boat_88 : decode cX6_boat 88 = .ok (.aload_n 0, 1) := by decide +kernel
theorem dX6_boat_89 : decode cX6_boat 89 = .ok (.getfield 10, 3) := by decide +kernel
theorem dX6_boat_92 : decode cX6_boat 92 = .ok (.iload 4, 2) := by decide +kernel
theorem dX6_boat_94 : decode cX6_boat 94 = .ok (.iload_n 3, 1) := by decide +kernel
theorem dX6_boat_95 : decode cX6_boat 95 = .ok (.invokevirtual 135, 3) := by decide +kernel
theorem dX6_boat_98 : decode cX6_boat 98 = .ok (.aload_n 0, 1) := by decide +kernel
theorem dX6_boat_99 : decode cX6_boat 99 = .ok (.getfield 39, 3) := by decide +kernel
theorem dX6_boat_102 : decode cX6_boat 102 = .ok (.iload_n 1, 1) := by decide +kernel
theorem dX6_boat_103 : decode cX6_boat 103 = .ok (.iload 4, 2) := by decide +kernel
theorem dX6_boat_105 : decode cX6_boat 105 = .ok (.iload_n 3, 1) := by decide +kernel
theorem dX6_boat_106 : decode cX6_boat 106 = .ok (.invokevirtual 249, 3) := by decide +kernel
theorem dX6_boat_109 : decode cX6_boat 109 = .ok (.invokevirtual 252, 3) := by decide +kernel
theorem dX6_boat_112 : decode cX6_boat 112 = .ok (.iinc 4 1, 3) := by decide +kernel
theorem dX6_boat_115 : decode cX6_boat 115 = .ok (.goto (-43), 3) := by decide +kernel
theorem dX6_boat_118 : decode cX6_boat 118 = .ok (.iinc 3 1, 3) := by decide +kernel
theorem dX6_boat_121 : decode cX6_boat 121 = .ok (.goto (-63), 3) := by decide +kernel
theorem dX6_boat_124 : decode cX6_boat 124 = .ok (.aload_n 0, 1) := by decide +kernel
theorem dX6_boat_125 : decode cX6_boat 125 = .ok (.getfield 53, 3) := by decide +kernel
theorem dX6_boat_128 : decode cX6_boat 128 = .ok (.aload_n 0, 1) := by decide +kernel
theorem dX6_boat_129 : decode cX6_boat 129 = .ok (.getfield 10, 3) := by decide +kernel
theorem dX6_boat_132 : decode cX6_boat 132 = .ok (.getfield 158, 3) := by decide +kernel
theorem dX6_boat_135 : decode cX6_boat 135 = .ok (.iload_n 1, 1) := by decide +kernel
theorem dX6_boat_136 : decode cX6_boat 136 = .ok (.iaload, 1) := by decide +kernel
theorem dX6_boat_137 : decode cX6_boat 137 = .ok (.iload_n 2, 1) := by decide +kernel
theorem dX6_boat_138 : decode cX6_boat 138 = .ok (.invokevirtual 255, 3) := by decide +kernel
theorem dX6_boat_141 : decode cX6_boat 141 = .ok (.ireturn, 1) := by decide +kernel
set_option maxRecDepth 20000 in
theorem ggX6_needed_X2_hasMan : GoodIn wsX6_needed wsX2_hasMan := goodIn_r _ [13, 14, 71, 72, 73, 74, 75, 76, 77, 78, 79, 80, 81, 82, 83, 84] (by decide +kernel) (by decide +kernel)
set_option maxRecDepth 20000 in
theorem gX6_needed_X2_hasMan : GoodIn wsX6_needed (wsV RX6 154 RX2 yX2_hasMan wsX2_hasMan) := goodIn_app (goodIn_of _ (by decide +kernel)) ggX6_needed_X2_hasMan
set_option maxRecDepth 20000 in
theorem ggX6_needed_X4_eyeNeeded : GoodIn wsX6_needed wsX4_eyeNeeded := goodIn_r _ [19, 20, 21, 22, 23, 24, 25, 6, 7, 8, 26, 27, 28, 12, 29, 30, 31, 32, 33, 34, 35, 36, 18, 37, 38, 39, 40, 41, 42, 43, 44, 45, 46, 47, 48, 49, 50, 51, 52, 53, 54, 55, 85, 86, 87, 88, 89, 90, 91, 92, 93, 94, 95, 96, 97, 98, 99, 71, 72, 73, 74, 75, 76, 77, 78, 79, 80, 81, 82, 83, 84] (by decide +kernel) (by decide +kernel)
set_option maxRecDepth 20000 in
theorem gX6_needed_X4_eyeNeeded : GoodIn wsX6_needed (wsV RX6 258 RX4 yX4_eyeNeeded wsX4_eyeNeeded) := goodIn_app (goodIn_of _ (by decide +kernel)) ggX6_needed_X4_eyeNeeded
set_option maxRecDepth 20000 in
theorem ggX6_needed_X4_eyeOf : GoodIn wsX6_needed wsX4_eyeOf := goodIn_r _ [59, 20, 60, 21, 61, 62, 85, 86, 87, 88, 89, 90, 91, 92, 71, 72, 73, 74, 75, 76, 77, 78, 79, 80, 81, 82, 83, 84, 93, 94, 95, 96, 97, 98, 99] (by decide +kernel) (by decide +kernel)
set_option maxRecDepth 20000 in
theorem gX6_needed_X4_eyeOf : GoodIn wsX6_needed (wsV RX6 167 RX4 yX4_eyeOf wsX4_eyeOf) := goodIn_app (goodIn_of _ (by decide +kernel)) ggX6_needed_X4_eyeOf
theorem dX6_needed_0 : decode cX6_needed 0 = .ok (.aload_n 0, 1) := by decide +kernel
theorem dX6_needed_1 : decode cX6_needed 1 = .ok (.getfield 10, 3) := by decide +kernel
theorem dX6_needed_4 : decode cX6_needed 4 = .ok (.iload_n 1, 1) := by decide +kernel
theorem dX6_needed_5 : decode cX6_needed 5 = .ok (.invokevirtual 154, 3) := by decide +kernel
theorem dX6_needed_8 : decode cX6_needed 8 = .ok (.ifCond .ne 6, 3) := by decide +kernel
theorem dX6_needed_11 : decode cX6_needed 11 = .ok (.ldc 134, 2) := by decide +kernel
theorem dX6_needed_13 : decode cX6_needed 13 = .ok (.ireturn, 1) := by decide +kernel
theorem dX6_needed_14 : decode cX6_needed 14 = .ok (.aload_n 0, 1) := by decide +kernel
theorem dX6_needed_15 : decode cX6_needed 15 = .ok (.getfield 39, 3) := by decide +kernel
theorem dX6_needed_18 : decode cX6_needed 18 = .ok (.iload_n 1, 1) := by decide +kernel
theorem dX6_needed_19 : decode cX6_needed 19 = .ok (.invokevirtual 258, 3) := by decide +kernel
theorem dX6_needed_22 : decode cX6_needed 22 = .ok (.aload_n 0, 1) := by decide +kernel
theorem dX6_needed_23 : decode cX6_needed 23 = .ok (.getfield 39, 3) := by decide +kernel
theorem dX6_needed_26 : decode cX6_needed 26 = .ok (.iload_n 1, 1) := by decide +kernel
theorem dX6_needed_27 : decode cX6_needed 27 = .ok (.invokevirtual 167, 3) := by decide +kernel
theorem dX6_needed_30 : decode cX6_needed 30 = .ok (.isub, 1) := by decide +kernel
theorem dX6_needed_31 : decode cX6_needed 31 = .ok (.istore_n 2, 1) := by decide +kernel
theorem dX6_needed_32 : decode cX6_needed 32 = .ok (.iload_n 2, 1) := by decide +kernel
theorem dX6_needed_33 : decode cX6_needed 33 = .ok (.ifCond .gt 5, 3) := by decide +kernel
theorem dX6_needed_36 : decode cX6_needed 36 = .ok (.iconst 0, 1) := by decide +kernel
theorem dX6_needed_37 : decode cX6_needed 37 = .ok (.ireturn, 1) := by decide +kernel
theorem dX6_needed_38 : decode cX6_needed 38 = .ok (.iconst 1, 1) := by decide +kernel
theorem dX6_needed_39 : decode cX6_needed 39 = .ok (.aload_n 0, 1) := by decide +kernel
theorem dX6_needed_40 : decode cX6_needed 40 = .ok (.getfield 10, 3) := by decide +kernel
theorem dX6_needed_43 : decode cX6_needed 43 = .ok (.getfield 121, 3) := by decide +kernel
theorem dX6_needed_46 : decode cX6_needed 46 = .ok (.invokestatic 261, 3) := by decide +kernel
theorem dX6_needed_49 : decode cX6_needed 49 = .ok (.istore_n 3, 1) := by decide +kernel
theorem dX6_needed_50 : decode cX6_needed 50 = .ok (.iload_n 2, 1) := by decide +kernel
theorem dX6_needed_51 : decode cX6_needed 51 = .ok (.iload_n 3, 1) := by decide +kernel
theorem dX6_needed_52 : decode cX6_needed 52 = .ok (.iadd, 1) := by decide +kernel
theorem dX6_needed_53 : decode cX6_needed 53 = .ok (.iconst 1, 1) := by decide +kernel
theorem dX6_needed_54 : decode cX6_needed 54 = .ok (.isub, 1) := by decide +kernel
theorem dX6_needed_55 : decode cX6_needed 55 = .ok (.iload_n 3, 1) := by decide +kernel
theorem dX6_needed_56 : decode cX6_needed 56 = .ok (.idiv, 1) := by decide +kernel
theorem dX6_needed_57 : decode cX6_needed 57 = .ok (.istore 4, 2) := by decide +kernel
theorem dX6_needed_59 : decode cX6_needed 59 = .ok (.iload 4, 2) := by decide +kernel
theorem dX6_needed_61 : decode cX6_needed 61 = .ok (.bipush 99, 2) := by decide +kernel
theorem dX6_needed_63 : decode cX6_needed 63 = .ok (.if_icmp .le 7, 3) := by decide +kernel
theorem dX6_needed_66 : decode cX6_needed 66 = .ok (.iconst (-1), 1) := by decide +kernel
theorem dX6_needed_67 : decode cX6_needed 67 = .ok (.goto 5, 3) := by decide +kernel
theorem dX6_needed_70 : decode cX6_needed 70 = .ok (.iload 4, 2) := by decide +kernel
theorem dX6_needed_72 : decode cX6_needed 72 = .ok (.ireturn, 1) := by decide +kernel
set_option maxRecDepth 20000 in
theorem ggX6_write_X2_hasMan : GoodIn wsX6_write wsX2_hasMan := goodIn_r _ [10, 11, 39, 40, 41, 42, 43, 44, 45, 46, 47, 48, 49, 50, 51, 52] (by decide +kernel) (by decide +kernel)
set_option maxRecDepth 20000 in
theorem gX6_write_X2_hasMan : GoodIn wsX6_write (wsV RX6 154 RX2 yX2_hasMan wsX2_hasMan) := goodIn_app (goodIn_of _ (by decide +kernel)) ggX6_write_X2_hasMan
set_option maxRecDepth 20000 in
theorem ggX6_write_X2_hasCell : GoodIn wsX6_write wsX2_hasCell := goodIn_r _ [15, 16, 17, 39, 40, 41, 42, 43, 44, 45, 46, 47, 48, 49, 50, 51, 52] (by decide +kernel) (by decide +kernel)
set_option maxRecDepth 20000 in
theorem gX6_write_X2_hasCell : GoodIn wsX6_write (wsV RX6 130 RX2 yX2_hasCell wsX2_hasCell) := goodIn_app (goodIn_of _ (by decide +kernel)) ggX6_write_X2_hasCell
set_option maxRecDepth 20000 in
theorem ggX6_write_X1_add : GoodIn wsX6_write wsX1_add := goodIn_r _ [22, 23, 24, 25, 26, 35, 36, 37, 38] (by decide +kernel) (by decide +kernel)
set_option maxRecDepth 20000 in
theorem gX6_write_X1_add : GoodIn wsX6_write (wsV RX6 264 RX1 yX1_add wsX1_add) := goodIn_app (goodIn_of _ (by decide +kernel)) ggX6_write_X1_add
theorem dX6_write_0 : decode cX6_write 0 = .ok (.aload_n 0, 1) := by decide +kernel
theorem dX6_write_1 : decode cX6_write 1 = .ok (.getfield 10, 3) := by decide +kernel
theorem dX6_write_4 : decode cX6_write 4 = .ok (.iload_n 1, 1) := by decide +kernel
theorem dX6_write_5 : decode cX6_write 5 = .ok (.invokevirtual 154, 3) := by decide +kernel
theorem dX6_write_8 : decode cX6_write 8 = .ok (.ifCond .eq 15, 3) := by decide +kernel
theorem dX6_write_11 : decode cX6_write 11 = .ok (.aload_n 0, 1) := by decide +kernel
theorem dX6_write_12 : decode cX6_write 12 = .ok (.getfield 10, 3) := by decide +kernel
theorem dX6_write_15 : decode cX6_write 15 = .ok (.iload_n 2, 1) := by decide +kernel
theorem dX6_write_16 : decode cX6_write 16 = .ok (.iload_n 3, 1) := by decide +kernel
theorem dX6_write_17 : decode cX6_write 17 = .ok (.invokevirtual 130, 3) := by decide +kernel
theorem dX6_write_20 : decode cX6_write 20 = .ok (.ifCond .ne 6, 3) := by decide +kernel
theorem dX6_write_23 : decode cX6_write 23 = .ok (.ldc 134, 2) := by decide +kernel
theorem dX6_write_25 : decode cX6_write 25 = .ok (.ireturn, 1) := by decide +kernel
theorem dX6_write_26 : decode cX6_write 26 = .ok (.aload_n 0, 1) := by decide +kernel
theorem dX6_write_27 : decode cX6_write 27 = .ok (.getfield 46, 3) := by decide +kernel
theorem dX6_write_30 : decode cX6_write 30 = .ok (.getfield 88, 3) := by decide +kernel
theorem dX6_write_33 : decode cX6_write 33 = .ok (.bipush 40, 2) := by decide +kernel
theorem dX6_write_35 : decode cX6_write 35 = .ok (.if_icmp .lt 6, 3) := by decide +kernel
theorem dX6_write_38 : decode cX6_write 38 = .ok (.ldc 66, 2) := by decide +kernel
theorem dX6_write_40 : decode cX6_write 40 = .ok (.ireturn, 1) := by decide +kernel
theorem dX6_write_41 : decode cX6_write 41 = .ok (.aload_n 0, 1) := by decide +kernel
theorem dX6_write_42 : decode cX6_write 42 = .ok (.getfield 46, 3) := by decide +kernel
theorem dX6_write_45 : decode cX6_write 45 = .ok (.iload_n 1, 1) := by decide +kernel
theorem dX6_write_46 : decode cX6_write 46 = .ok (.iload_n 2, 1) := by decide +kernel
theorem dX6_write_47 : decode cX6_write 47 = .ok (.iload_n 3, 1) := by decide +kernel
theorem dX6_write_48 : decode cX6_write 48 = .ok (.invokevirtual 264, 3) := by decide +kernel
theorem dX6_write_51 : decode cX6_write 51 = .ok (.aload_n 0, 1) := by decide +kernel
theorem dX6_write_52 : decode cX6_write 52 = .ok (.getfield 46, 3) := by decide +kernel
theorem dX6_write_55 : decode cX6_write 55 = .ok (.getfield 88, 3) := by decide +kernel
theorem dX6_write_58 : decode cX6_write 58 = .ok (.ireturn, 1) := by decide +kernel
theorem dX6_tear_0 : decode cX6_tear 0 = .ok (.aload_n 0, 1) := by decide +kernel
theorem dX6_tear_1 : decode cX6_tear 1 = .ok (.getfield 46, 3) := by decide +kernel
theorem dX6_tear_4 : decode cX6_tear 4 = .ok (.getfield 88, 3) := by decide +kernel
theorem dX6_tear_7 : decode cX6_tear 7 = .ok (.istore_n 1, 1) := by decide +kernel
theorem dX6_tear_8 : decode cX6_tear 8 = .ok (.aload_n 0, 1) := by decide +kernel
theorem dX6_tear_9 : decode cX6_tear 9 = .ok (.getfield 46, 3) := by decide +kernel
theorem dX6_tear_12 : decode cX6_tear 12 = .ok (.iconst 0, 1) := by decide +kernel
theorem dX6_tear_13 : decode cX6_tear 13 = .ok (.putfield 88, 3) := by decide +kernel
theorem dX6_tear_16 : decode cX6_tear 16 = .ok (.iload_n 1, 1) := by decide +kernel
theorem dX6_tear_17 : decode cX6_tear 17 = .ok (.ireturn, 1) := by decide +kernel
set_option maxRecDepth 20000 in
theorem ggX6_judge_X4_lookAll : GoodIn wsX6_judge wsX4_lookAll := goodIn_r _ [11, 12, 13, 14, 15, 16, 17, 10, 18, 19, 20, 21, 22, 23, 24, 25, 26, 27, 28, 29, 30, 31, 32, 33, 34, 35, 36, 37, 38, 39, 40, 41, 42, 43, 44, 45, 46, 47, 48, 49, 50, 51, 52, 53, 54, 55, 56, 57, 58, 59, 60, 61, 62, 63, 64, 65, 66, 67, 68, 69, 70, 71, 72, 73, 74, 75, 104, 105, 106, 107, 108, 109, 110, 111, 112, 113, 114, 115, 116, 117, 118, 119, 120, 121, 122, 123, 124, 125, 126, 127, 128, 129, 130, 131, 132] (by decide +kernel) (by decide +kernel)
set_option maxRecDepth 20000 in
theorem gX6_judge_X4_lookAll : GoodIn wsX6_judge (wsV RX6 145 RX4 yX4_lookAll wsX4_lookAll) := goodIn_app (goodIn_of _ (by decide +kernel)) ggX6_judge_X4_lookAll
set_option maxRecDepth 20000 in
theorem ggX6_judge_X4_ownersOf : GoodIn wsX6_judge wsX4_ownersOf := goodIn_r _ [79, 12, 13, 19, 80, 64, 65, 66, 26, 67, 68, 81, 82, 83, 10, 84, 14, 40, 45, 46, 43, 47, 85, 70, 86, 87, 88, 89, 90, 53, 54, 55, 56, 57, 58, 59, 104, 105, 106, 107, 108, 109, 110, 111, 126, 127, 128, 129, 130, 131, 132, 112, 113, 114, 115, 116, 117, 118, 119, 120, 121, 122, 123, 124, 125] (by decide +kernel) (by decide +kernel)
set_option maxRecDepth 20000 in
theorem gX6_judge_X4_ownersOf : GoodIn wsX6_judge (wsV RX6 151 RX4 yX4_ownersOf wsX4_ownersOf) := goodIn_app (goodIn_of _ (by decide +kernel)) ggX6_judge_X4_ownersOf
set_option maxRecDepth 20000 in
theorem ggX6_judge_X6_holds : GoodIn wsX6_judge wsX6_holds := goodIn_r _ [86] (by decide +kernel) (by decide +kernel)
set_option maxRecDepth 20000 in
theorem gX6_judge_X6_holds : GoodIn wsX6_judge (va_wsS RX6 276 yX6_holds wsX6_holds) := goodIn_app (goodIn_of _ (by decide +kernel)) ggX6_judge_X6_holds
theorem dX6_judge_0 : decode cX6_judge 0 = .ok (.aload_n 0, 1) := by decide +kernel
theorem dX6_judge_1 : decode cX6_judge 1 = .ok (.getfield 39, 3) := by decide +kernel
theorem dX6_judge_4 : decode cX6_judge 4 = .ok (.invokevirtual 145, 3) := by decide +kernel
theorem dX6_judge_7 : decode cX6_judge 7 = .ok (.iconst 0, 1) := by decide +kernel
theorem dX6_judge_8 : decode cX6_judge 8 = .ok (.istore_n 1, 1) := by decide +kernel
theorem dX6_judge_9 : decode cX6_judge 9 = .ok (.iload_n 1, 1) := by decide +kernel
theorem dX6_judge_10 : decode cX6_judge 10 = .ok (.aload_n 0, 1) := by decide +kernel
theorem dX6_judge_11 : decode cX6_judge 11 = .ok (.getfield 46, 3) := by decide +kernel
theorem dX6_judge_14 : decode cX6_judge 14 = .ok (.getfield 88, 3) := by decide +kernel
theorem dX6_judge_17 : decode cX6_judge 17 = .ok (.if_icmp .ge 53, 3) := by decide +kernel
theorem dX6_judge_20 : decode cX6_judge 20 = .ok (.aload_n 0, 1) := by decide +kernel
theorem dX6_judge_21 : decode cX6_judge 21 = .ok (.getfield 39, 3) := by decide +kernel
theorem dX6_judge_24 : decode cX6_judge 24 = .ok (.aload_n 0, 1) := by decide +kernel
theorem dX6_judge_25 : decode cX6_judge 25 = .ok (.getfield 46, 3) := by decide +kernel
theorem dX6_judge_28 : decode cX6_judge 28 = .ok (.getfield 268, 3) := by decide +kernel
theorem dX6_judge_31 : decode cX6_judge 31 = .ok (.iload_n 1, 1) := by decide +kernel
theorem dX6_judge_32 : decode cX6_judge 32 = .ok (.iaload, 1) := by decide +kernel
theorem dX6_judge_33 : decode cX6_judge 33 = .ok (.aload_n 0, 1) := by decide +kernel
theorem dX6_judge_34 : decode cX6_judge 34 = .ok (.getfield 46, 3) := by decide +kernel
theorem dX6_judge_37 : decode cX6_judge 37 = .ok (.getfield 271, 3) := by decide +kernel
theorem dX6_judge_40 : decode cX6_judge 40 = .ok (.iload_n 1, 1) := by decide +kernel
theorem dX6_judge_41 : decode cX6_judge 41 = .ok (.iaload, 1) := by decide +kernel
theorem dX6_judge_42 : decode cX6_judge 42 = .ok (.invokevirtual 151, 3) := by decide +kernel
theorem dX6_judge_45 : decode cX6_judge 45 = .ok (.istore_n 2, 1) := by decide +kernel
theorem dX6_judge_46 : decode cX6_judge 46 = .ok (.iload_n 2, 1) := by decide +kernel
theorem dX6_judge_47 : decode cX6_judge 47 = .ok (.aload_n 0, 1) := by decide +kernel
theorem dX6_judge_48 : decode cX6_judge 48 = .ok (.getfield 46, 3) := by decide +kernel
theorem dX6_judge_51 : decode cX6_judge 51 = .ok (.getfield 274, 3) := by decide +kernel
theorem dX6_judge_54 : decode cX6_judge 54 = .ok (.iload_n 1, 1) := by decide +kernel
theorem dX6_judge_55 : decode cX6_judge 55 = .ok (.iaload, 1) := by decide +kernel
theorem dX6_judge_56 : decode cX6_judge 56 = .ok (.invokestatic 276, 3) := by decide +kernel
theorem dX6_judge_59 : decode cX6_judge 59 = .ok (.ifCond .ne 5, 3) := by decide +kernel
theorem dX6_judge_62 : decode cX6_judge 62 = .ok (.iload_n 1, 1) := by decide +kernel
theorem dX6_judge_63 : decode cX6_judge 63 = .ok (.ireturn, 1) := by decide +kernel
theorem dX6_judge_64 : decode cX6_judge 64 = .ok (.iinc 1 1, 3) := by decide +kernel
theorem dX6_judge_67 : decode cX6_judge 67 = .ok (.goto (-58), 3) := by decide +kernel
theorem dX6_judge_70 : decode cX6_judge 70 = .ok (.iconst (-1), 1) := by decide +kernel
theorem dX6_judge_71 : decode cX6_judge 71 = .ok (.ireturn, 1) := by decide +kernel
theorem dX6_seed_0 : decode cX6_seed 0 = .ok (.iload_n 1, 1) := by decide +kernel
theorem dX6_seed_1 : decode cX6_seed 1 = .ok (.ifCond .ge 6, 3) := by decide +kernel
theorem dX6_seed_4 : decode cX6_seed 4 = .ok (.ldc 61, 2) := by decide +kernel
theorem dX6_seed_6 : decode cX6_seed 6 = .ok (.ireturn, 1) := by decide +kernel
theorem dX6_seed_7 : decode cX6_seed 7 = .ok (.aload_n 0, 1) := by decide +kernel
theorem dX6_seed_8 : decode cX6_seed 8 = .ok (.getfield 26, 3) := by decide +kernel
theorem dX6_seed_11 : decode cX6_seed 11 = .ok (.getfield 279, 3) := by decide +kernel
theorem dX6_seed_14 : decode cX6_seed 14 = .ok (.istore_n 2, 1) := by decide +kernel
theorem dX6_seed_15 : decode cX6_seed 15 = .ok (.aload_n 0, 1) := by decide +kernel
theorem dX6_seed_16 : decode cX6_seed 16 = .ok (.getfield 26, 3) := by decide +kernel
theorem dX6_seed_19 : decode cX6_seed 19 = .ok (.iload_n 1, 1) := by decide +kernel
theorem dX6_seed_20 : decode cX6_seed 20 = .ok (.putfield 279, 3) := by decide +kernel
theorem dX6_seed_23 : decode cX6_seed 23 = .ok (.iload_n 2, 1) := by decide +kernel
theorem dX6_seed_24 : decode cX6_seed 24 = .ok (.ireturn, 1) := by decide +kernel
set_option maxRecDepth 20000 in
theorem ggX6_keep_X5_copyFrom : GoodIn wsX6_keep wsX5_copyFrom := goodIn_r _ [9, 10, 11, 12, 13, 14, 15, 16, 17, 18, 19, 28, 29, 30, 31, 32, 33, 34] (by decide +kernel) (by decide +kernel)
set_option maxRecDepth 20000 in
theorem gX6_keep_X5_copyFrom : GoodIn wsX6_keep (wsV RX6 282 RX5 yX5_copyFrom wsX5_copyFrom) := goodIn_app (goodIn_of _ (by decide +kernel)) ggX6_keep_X5_copyFrom
theorem dX6_keep_0 : decode cX6_keep 0 = .ok (.iload_n 1, 1) := by decide +kernel
theorem dX6_keep_1 : decode cX6_keep 1 = .ok (.ifCond .lt 8, 3) := by decide +kernel
theorem dX6_keep_4 : decode cX6_keep 4 = .ok (.iload_n 1, 1) := by decide +kernel
theorem dX6_keep_5 : decode cX6_keep 5 = .ok (.iconst 2, 1) := by decide +kernel
theorem dX6_keep_6 : decode cX6_keep 6 = .ok (.if_icmp .lt 6, 3) := by decide +kernel
theorem dX6_keep_9 : decode cX6_keep 9 = .ok (.ldc 134, 2) := by decide +kernel
theorem dX6_keep_11 : decode cX6_keep 11 = .ok (.ireturn, 1) := by decide +kernel
theorem dX6_keep_12 : decode cX6_keep 12 = .ok (.aload_n 0, 1) := by decide +kernel
theorem dX6_keep_13 : decode cX6_keep 13 = .ok (.getfield 30, 3) := by decide +kernel
theorem dX6_keep_16 : decode cX6_keep 16 = .ok (.iload_n 1, 1) := by decide +kernel
theorem dX6_keep_17 : decode cX6_keep 17 = .ok (.aaload, 1) := by decide +kernel
theorem dX6_keep_18 : decode cX6_keep 18 = .ok (.aload_n 0, 1) := by decide +kernel
theorem dX6_keep_19 : decode cX6_keep 19 = .ok (.getfield 26, 3) := by decide +kernel
theorem dX6_keep_22 : decode cX6_keep 22 = .ok (.invokevirtual 282, 3) := by decide +kernel
theorem dX6_keep_25 : decode cX6_keep 25 = .ok (.aload_n 0, 1) := by decide +kernel
theorem dX6_keep_26 : decode cX6_keep 26 = .ok (.getfield 30, 3) := by decide +kernel
theorem dX6_keep_29 : decode cX6_keep 29 = .ok (.iload_n 1, 1) := by decide +kernel
theorem dX6_keep_30 : decode cX6_keep 30 = .ok (.aaload, 1) := by decide +kernel
theorem dX6_keep_31 : decode cX6_keep 31 = .ok (.iconst 1, 1) := by decide +kernel
theorem dX6_keep_32 : decode cX6_keep 32 = .ok (.putfield 91, 3) := by decide +kernel
theorem dX6_keep_35 : decode cX6_keep 35 = .ok (.iconst 1, 1) := by decide +kernel
theorem dX6_keep_36 : decode cX6_keep 36 = .ok (.ireturn, 1) := by decide +kernel
set_option maxRecDepth 20000 in
theorem ggX6_goBack_X5_copyFrom : GoodIn wsX6_goBack wsX5_copyFrom := goodIn_r _ [10, 11, 12, 13, 14, 15, 16, 17, 18, 19, 20, 29, 30, 31, 32, 33, 34, 35] (by decide +kernel) (by decide +kernel)
set_option maxRecDepth 20000 in
theorem gX6_goBack_X5_copyFrom : GoodIn wsX6_goBack (wsV RX6 282 RX5 yX5_copyFrom wsX5_copyFrom) := goodIn_app (goodIn_of _ (by decide +kernel)) ggX6_goBack_X5_copyFrom
theorem dX6_goBack_0 : decode cX6_goBack 0 = .ok (.iload_n 1, 1) := by decide +kernel
theorem dX6_goBack_1 : decode cX6_goBack 1 = .ok (.ifCond .lt 8, 3) := by decide +kernel
theorem dX6_goBack_4 : decode cX6_goBack 4 = .ok (.iload_n 1, 1) := by decide +kernel
theorem dX6_goBack_5 : decode cX6_goBack 5 = .ok (.iconst 2, 1) := by decide +kernel
theorem dX6_goBack_6 : decode cX6_goBack 6 = .ok (.if_icmp .lt 6, 3) := by decide +kernel
theorem dX6_goBack_9 : decode cX6_goBack 9 = .ok (.ldc 134, 2) := by decide +kernel
theorem dX6_goBack_11 : decode cX6_goBack 11 = .ok (.ireturn, 1) := by decide +kernel
theorem dX6_goBack_12 : decode cX6_goBack 12 = .ok (.aload_n 0, 1) := by decide +kernel
theorem dX6_goBack_13 : decode cX6_goBack 13 = .ok (.getfield 30, 3) := by decide +kernel
theorem dX6_goBack_16 : decode cX6_goBack 16 = .ok (.iload_n 1, 1) := by decide +kernel
theorem dX6_goBack_17 : decode cX6_goBack 17 = .ok (.aaload, 1) := by decide +kernel
theorem dX6_goBack_18 : decode cX6_goBack 18 = .ok (.getfield 91, 3) := by decide +kernel
theorem dX6_goBack_21 : decode cX6_goBack 21 = .ok (.ifCond .ne 6, 3) := by decide +kernel
theorem dX6_goBack_24 : decode cX6_goBack 24 = .ok (.ldc 193, 2) := by decide +kernel
theorem dX6_goBack_26 : decode cX6_goBack 26 = .ok (.ireturn, 1) := by decide +kernel
theorem dX6_goBack_27 : decode cX6_goBack 27 = .ok (.aload_n 0, 1) := by decide +kernel
theorem dX6_goBack_28 : decode cX6_goBack 28 = .ok (.getfield 26, 3) := by decide +kernel
theorem dX6_goBack_31 : decode cX6_goBack 31 = .ok (.aload_n 0, 1) := by decide +kernel
theorem dX6_goBack_32 : decode cX6_goBack 32 = .ok (.getfield 30, 3) := by decide +kernel
theorem dX6_goBack_35 : decode cX6_goBack 35 = .ok (.iload_n 1, 1) := by decide +kernel
theorem dX6_goBack_36 : decode cX6_goBack 36 = .ok (.aaload, 1) := by decide +kernel
theorem dX6_goBack_37 : decode cX6_goBack 37 = .ok (.invokevirtual 282, 3) := by decide +kernel
theorem dX6_goBack_40 : decode cX6_goBack 40 = .ok (.iconst 1, 1) := by decide +kernel
theorem dX6_goBack_41 : decode cX6_goBack 41 = .ok (.ireturn, 1) := by decide +kernel
theorem dX6_placeOf_0 : decode cX6_placeOf 0 = .ok (.bipush 100, 2) := by decide +kernel
theorem dX6_placeOf_2 : decode cX6_placeOf 2 = .ok (.iload_n 0, 1) := by decide +kernel
theorem dX6_placeOf_3 : decode cX6_placeOf 3 = .ok (.imul, 1) := by decide +kernel
theorem dX6_placeOf_4 : decode cX6_placeOf 4 = .ok (.iload_n 1, 1) := by decide +kernel
theorem dX6_placeOf_5 : decode cX6_placeOf 5 = .ok (.iadd, 1) := by decide +kernel
theorem dX6_placeOf_6 : decode cX6_placeOf 6 = .ok (.ireturn, 1) := by decide +kernel
theorem dX6_holds_0 : decode cX6_holds 0 = .ok (.iload_n 0, 1) := by decide +kernel
theorem dX6_holds_1 : decode cX6_holds 1 = .ok (.iload_n 1, 1) := by decide +kernel
theorem dX6_holds_2 : decode cX6_holds 2 = .ok (.ishr, 1) := by decide +kernel
theorem dX6_holds_3 : decode cX6_holds 3 = .ok (.iconst 1, 1) := by decide +kernel
theorem dX6_holds_4 : decode cX6_holds 4 = .ok (.iand, 1) := by decide +kernel
theorem dX6_holds_5 : decode cX6_holds 5 = .ok (.ifCond .eq 7, 3) := by decide +kernel
theorem dX6_holds_8 : decode cX6_holds 8 = .ok (.iconst 1, 1) := by decide +kernel
theorem dX6_holds_9 : decode cX6_holds 9 = .ok (.goto 4, 3) := by decide +kernel
theorem dX6_holds_12 : decode cX6_holds 12 = .ok (.iconst 0, 1) := by decide +kernel
theorem dX6_holds_13 : decode cX6_holds 13 = .ok (.ireturn, 1) := by decide +kernel
set_option maxRecDepth 20000 in
theorem ggX6_countFree_X4_lookAll : GoodIn wsX6_countFree wsX4_lookAll := goodIn_r _ [8, 9, 10, 11, 12, 13, 14, 7, 15, 16, 17, 18, 19, 20, 21, 22, 23, 24, 25, 26, 27, 28, 29, 30, 31, 32, 33, 34, 35, 36, 37, 38, 39, 40, 41, 42, 43, 44, 45, 46, 47, 48, 49, 50, 51, 52, 53, 54, 55, 56, 57, 58, 59, 60, 61, 62, 63, 64, 65, 66, 67, 68, 69, 70, 71, 72, 86, 87, 88, 89, 90, 91, 92, 93, 94, 95, 96, 97, 98, 99, 100, 101, 102, 103, 104, 105, 106, 107, 108, 109, 110, 111, 112, 113, 114] (by decide +kernel) (by decide +kernel)
set_option maxRecDepth 20000 in
theorem gX6_countFree_X4_lookAll : GoodIn wsX6_countFree (wsV RX6 145 RX4 yX4_lookAll wsX4_lookAll) := goodIn_app (goodIn_of _ (by decide +kernel)) ggX6_countFree_X4_lookAll
set_option maxRecDepth 20000 in
theorem ggX6_countFree_X2_cells : GoodIn wsX6_countFree wsX2_cells := goodIn_r _ [76, 65, 77, 94, 95, 96, 97, 98, 99, 100, 101, 102, 103, 104, 105, 106, 107] (by decide +kernel) (by decide +kernel)
set_option maxRecDepth 20000 in
theorem gX6_countFree_X2_cells : GoodIn wsX6_countFree (wsV RX6 95 RX2 yX2_cells wsX2_cells) := goodIn_app (goodIn_of _ (by decide +kernel)) ggX6_countFree_X2_cells
theorem dX6_countFree_0 : decode cX6_countFree 0 = .ok (.aload_n 0, 1) := by decide +kernel
theorem dX6_countFree_1 : decode cX6_countFree 1 = .ok (.getfield 39, 3) := by decide +kernel
theorem dX6_countFree_4 : decode cX6_countFree 4 = .ok (.invokevirtual 145, 3) := by decide +kernel
theorem dX6_countFree_7 : decode cX6_countFree 7 = .ok (.iconst 0, 1) := by decide +kernel
theorem dX6_countFree_8 : decode cX6_countFree 8 = .ok (.istore_n 1, 1) := by decide +kernel
theorem dX6_countFree_9 : decode cX6_countFree 9 = .ok (.iconst 0, 1) := by decide +kernel
theorem dX6_countFree_10 : decode cX6_countFree 10 = .ok (.istore_n 2, 1) := by decide +kernel
theorem dX6_countFree_11 : decode cX6_countFree 11 = .ok (.iload_n 2, 1) := by decide +kernel
theorem dX6_countFree_12 : decode cX6_countFree 12 = .ok (.aload_n 0, 1) := by decide +kernel
theorem dX6_countFree_13 : decode cX6_countFree 13 = .ok (.getfield 10, 3) := by decide +kernel
theorem dX6_countFree_16 : decode cX6_countFree 16 = .ok (.invokevirtual 95, 3) := by decide +kernel
theorem dX6_countFree_19 : decode cX6_countFree 19 = .ok (.if_icmp .ge 24, 3) := by decide +kernel
theorem dX6_countFree_22 : decode cX6_countFree 22 = .ok (.aload_n 0, 1) := by decide +kernel
theorem dX6_countFree_23 : decode cX6_countFree 23 = .ok (.getfield 39, 3) := by decide +kernel
theorem dX6_countFree_26 : decode cX6_countFree 26 = .ok (.getfield 148, 3) := by decide +kernel
theorem dX6_countFree_29 : decode cX6_countFree 29 = .ok (.iload_n 2, 1) := by decide +kernel
theorem dX6_countFree_30 : decode cX6_countFree 30 = .ok (.iaload, 1) := by decide +kernel
theorem dX6_countFree_31 : decode cX6_countFree 31 = .ok (.ifCond .ne 6, 3) := by decide +kernel
theorem dX6_countFree_34 : decode cX6_countFree 34 = .ok (.iinc 1 1, 3) := by decide +kernel
theorem dX6_countFree_37 : decode cX6_countFree 37 = .ok (.iinc 2 1, 3) := by decide +kernel
theorem dX6_countFree_40 : decode cX6_countFree 40 = .ok (.goto (-29), 3) := by decide +kernel
theorem dX6_countFree_43 : decode cX6_countFree 43 = .ok (.iload_n 1, 1) := by decide +kernel
theorem dX6_countFree_44 : decode cX6_countFree 44 = .ok (.ireturn, 1) := by decide +kernel
set_option maxRecDepth 20000 in
theorem ggX6_countSeen_X4_lookAll : GoodIn wsX6_countSeen wsX4_lookAll := goodIn_r _ [8, 9, 10, 11, 12, 13, 14, 7, 15, 16, 17, 18, 19, 20, 21, 22, 23, 24, 25, 26, 27, 28, 29, 30, 31, 32, 33, 34, 35, 36, 37, 38, 39, 40, 41, 42, 43, 44, 45, 46, 47, 48, 49, 50, 51, 52, 53, 54, 55, 56, 57, 58, 59, 60, 61, 62, 63, 64, 65, 66, 67, 68, 69, 70, 71, 72, 89, 90, 91, 92, 93, 94, 95, 96, 97, 98, 99, 100, 101, 102, 103, 104, 105, 106, 107, 108, 109, 110, 111, 112, 113, 114, 115, 116, 117] (by decide +kernel) (by decide +kernel)
set_option maxRecDepth 20000 in
theorem gX6_countSeen_X4_lookAll : GoodIn wsX6_countSeen (wsV RX6 145 RX4 yX4_lookAll wsX4_lookAll) := goodIn_app (goodIn_of _ (by decide +kernel)) ggX6_countSeen_X4_lookAll
set_option maxRecDepth 20000 in
theorem ggX6_countSeen_X2_cells : GoodIn wsX6_countSeen wsX2_cells := goodIn_r _ [76, 65, 77, 97, 98, 99, 100, 101, 102, 103, 104, 105, 106, 107, 108, 109, 110] (by decide +kernel) (by decide +kernel)
set_option maxRecDepth 20000 in
theorem gX6_countSeen_X2_cells : GoodIn wsX6_countSeen (wsV RX6 95 RX2 yX2_cells wsX2_cells) := goodIn_app (goodIn_of _ (by decide +kernel)) ggX6_countSeen_X2_cells
set_option maxRecDepth 20000 in
theorem ggX6_countSeen_X6_holds : GoodIn wsX6_countSeen wsX6_holds := goodIn_r _ [80] (by decide +kernel) (by decide +kernel)
set_option maxRecDepth 20000 in
theorem gX6_countSeen_X6_holds : GoodIn wsX6_countSeen (va_wsS RX6 276 yX6_holds wsX6_holds) := goodIn_app (goodIn_of _ (by decide +kernel)) ggX6_countSeen_X6_holds
theorem dX6_countSeen_0 : decode cX6_countSeen 0 = .ok (.aload_n 0, 1) := by decide +kernel
theorem dX6_countSeen_1 : decode cX6_countSeen 1 = .ok (.getfield 39, 3) := by decide +kernel
theorem dX6_countSeen_4 : decode cX6_countSeen 4 = .ok (.invokevirtual 145, 3) := by decide +kernel
theorem dX6_countSeen_7 : decode cX6_countSeen 7 = .ok (.iconst 0, 1) := by decide +kernel
theorem dX6_countSeen_8 : decode cX6_countSeen 8 = .ok (.istore_n 2, 1) := by decide +kernel
theorem dX6_countSeen_9 : decode cX6_countSeen 9 = .ok (.iconst 0, 1) := by decide +kernel
theorem dX6_countSeen_10 : decode cX6_countSeen 10 = .ok (.istore_n 3, 1) := by decide +kernel
theorem dX6_countSeen_11 : decode cX6_countSeen 11 = .ok (.iload_n 3, 1) := by decide +kernel
theorem dX6_countSeen_12 : decode cX6_countSeen 12 = .ok (.aload_n 0, 1) := by decide +kernel
theorem dX6_countSeen_13 : decode cX6_countSeen 13 = .ok (.getfield 10, 3) := by decide +kernel
theorem dX6_countSeen_16 : decode cX6_countSeen 16 = .ok (.invokevirtual 95, 3) := by decide +kernel
theorem dX6_countSeen_19 : decode cX6_countSeen 19 = .ok (.if_icmp .ge 28, 3) := by decide +kernel
theorem dX6_countSeen_22 : decode cX6_countSeen 22 = .ok (.aload_n 0, 1) := by decide +kernel
theorem dX6_countSeen_23 : decode cX6_countSeen 23 = .ok (.getfield 39, 3) := by decide +kernel
theorem dX6_countSeen_26 : decode cX6_countSeen 26 = .ok (.getfield 148, 3) := by decide +kernel
theorem dX6_countSeen_29 : decode cX6_countSeen 29 = .ok (.iload_n 3, 1) := by decide +kernel
theorem dX6_countSeen_30 : decode cX6_countSeen 30 = .ok (.iaload, 1) := by decide +kernel
theorem dX6_countSeen_31 : decode cX6_countSeen 31 = .ok (.iload_n 1, 1) := by decide +kernel
theorem dX6_countSeen_32 : decode cX6_countSeen 32 = .ok (.invokestatic 276, 3) := by decide +kernel
theorem dX6_countSeen_35 : decode cX6_countSeen 35 = .ok (.ifCond .eq 6, 3) := by decide +kernel
theorem dX6_countSeen_38 : decode cX6_countSeen 38 = .ok (.iinc 2 1, 3) := by decide +kernel
theorem dX6_countSeen_41 : decode cX6_countSeen 41 = .ok (.iinc 3 1, 3) := by decide +kernel
theorem dX6_countSeen_44 : decode cX6_countSeen 44 = .ok (.goto (-33), 3) := by decide +kernel
theorem dX6_countSeen_47 : decode cX6_countSeen 47 = .ok (.iload_n 2, 1) := by decide +kernel
theorem dX6_countSeen_48 : decode cX6_countSeen 48 = .ok (.ireturn, 1) := by decide +kernel
set_option maxRecDepth 20000 in
theorem ggX6_countOwned_X4_lookAll : GoodIn wsX6_countOwned wsX4_lookAll := goodIn_r _ [9, 10, 11, 12, 13, 14, 15, 8, 16, 17, 18, 19, 20, 21, 22, 23, 24, 25, 26, 27, 28, 29, 30, 31, 32, 33, 34, 35, 36, 37, 38, 39, 40, 41, 42, 43, 44, 45, 46, 47, 48, 49, 50, 51, 52, 53, 54, 55, 56, 57, 58, 59, 60, 61, 62, 63, 64, 65, 66, 67, 68, 69, 70, 71, 72, 73, 112, 113, 114, 115, 116, 117, 118, 119, 98, 99, 100, 101, 102, 103, 104, 105, 106, 107, 108, 109, 110, 111, 120, 121, 122, 123, 124, 125, 126] (by decide +kernel) (by decide +kernel)
set_option maxRecDepth 20000 in
theorem gX6_countOwned_X4_lookAll : GoodIn wsX6_countOwned (wsV RX6 145 RX4 yX4_lookAll wsX4_lookAll) := goodIn_app (goodIn_of _ (by decide +kernel)) ggX6_countOwned_X4_lookAll
set_option maxRecDepth 20000 in
theorem ggX6_countOwned_X4_ownersOf : GoodIn wsX6_countOwned wsX4_ownersOf := goodIn_r _ [77, 10, 11, 17, 78, 62, 63, 64, 24, 65, 66, 79, 80, 81, 8, 82, 12, 38, 43, 44, 41, 45, 83, 68, 84, 85, 86, 87, 88, 51, 52, 53, 54, 55, 56, 57, 112, 113, 114, 115, 116, 117, 118, 119, 120, 121, 122, 123, 124, 125, 126, 98, 99, 100, 101, 102, 103, 104, 105, 106, 107, 108, 109, 110, 111] (by decide +kernel) (by decide +kernel)
set_option maxRecDepth 20000 in
theorem gX6_countOwned_X4_ownersOf : GoodIn wsX6_countOwned (wsV RX6 151 RX4 yX4_ownersOf wsX4_ownersOf) := goodIn_app (goodIn_of _ (by decide +kernel)) ggX6_countOwned_X4_ownersOf
set_option maxRecDepth 20000 in
theorem ggX6_countOwned_X6_holds : GoodIn wsX6_countOwned wsX6_holds := goodIn_r _ [84] (by decide +kernel) (by decide +kernel)
set_option maxRecDepth 20000 in
theorem gX6_countOwned_X6_holds : GoodIn wsX6_countOwned (va_wsS RX6 276 yX6_holds wsX6_holds) := goodIn_app (goodIn_of _ (by decide +kernel)) ggX6_countOwned_X6_holds
theorem dX6_countOwned_0 : decode cX6_countOwned 0 = .ok (.aload_n 0, 1) := by decide +kernel
theorem dX6_countOwned_1 : decode cX6_countOwned 1 = .ok (.getfield 39, 3) := by decide +kernel
theorem dX6_countOwned_4 : decode cX6_countOwned 4 = .ok (.invokevirtual 145, 3) := by decide +kernel
theorem dX6_countOwned_7 : decode cX6_countOwned 7 = .ok (.iconst 0, 1) := by decide +kernel
theorem dX6_countOwned_8 : decode cX6_countOwned 8 = .ok (.istore_n 2, 1) := by decide +kernel
theorem dX6_countOwned_9 : decode cX6_countOwned 9 = .ok (.iconst 0, 1) := by decide +kernel
theorem dX6_countOwned_10 : decode cX6_countOwned 10 = .ok (.istore_n 3, 1) := by decide +kernel
theorem dX6_countOwned_11 : decode cX6_countOwned 11 = .ok (.iload_n 3, 1) := by decide +kernel
theorem dX6_countOwned_12 : decode cX6_countOwned 12 = .ok (.aload_n 0, 1) := by decide +kernel
theorem dX6_countOwned_13 : decode cX6_countOwned 13 = .ok (.getfield 10, 3) := by decide +kernel
theorem dX6_countOwned_16 : decode cX6_countOwned 16 = .ok (.getfield 105, 3) := by decide +kernel
theorem dX6_countOwned_19 : decode cX6_countOwned 19 = .ok (.if_icmp .ge 50, 3) := by decide +kernel
theorem dX6_countOwned_22 : decode cX6_countOwned 22 = .ok (.iconst 0, 1) := by decide +kernel
theorem dX6_countOwned_23 : decode cX6_countOwned 23 = .ok (.istore 4, 2) := by decide +kernel
theorem dX6_countOwned_25 : decode cX6_countOwned 25 = .ok (.iload 4, 2) := by decide +kernel
theorem dX6_countOwned_27 : decode cX6_countOwned 27 = .ok (.aload_n 0, 1) := by decide +kernel
theorem dX6_countOwned_28 : decode cX6_countOwned 28 = .ok (.getfield 10, 3) := by decide +kernel
theorem dX6_countOwned_31 : decode cX6_countOwned 31 = .ok (.getfield 102, 3) := by decide +kernel
theorem dX6_countOwned_34 : decode cX6_countOwned 34 = .ok (.if_icmp .ge 29, 3) := by decide +kernel
theorem dX6_countOwned_37 : decode cX6_countOwned 37 = .ok (.aload_n 0, 1) := by decide +kernel
theorem dX6_countOwned_38 : decode cX6_countOwned 38 = .ok (.getfield 39, 3) := by decide +kernel
theorem dX6_countOwned_41 : decode cX6_countOwned 41 = .ok (.iload 4, 2) := by decide +kernel
theorem dX6_countOwned_43 : decode cX6_countOwned 43 = .ok (.iload_n 3, 1) := by decide +kernel
theorem dX6_countOwned_44 : decode cX6_countOwned 44 = .ok (.invokevirtual 151, 3) := by decide +kernel
theorem dX6_countOwned_47 : decode cX6_countOwned 47 = .ok (.iload_n 1, 1) := by decide +kernel
theorem dX6_countOwned_48 : decode cX6_countOwned 48 = .ok (.invokestatic 276, 3) := by decide +kernel
theorem dX6_countOwned_51 : decode cX6_countOwned 51 = .ok (.ifCond .eq 6, 3) := by decide +kernel
theorem dX6_countOwned_54 : decode cX6_countOwned 54 = .ok (.iinc 2 1, 3) := by decide +kernel
theorem dX6_countOwned_57 : decode cX6_countOwned 57 = .ok (.iinc 4 1, 3) := by decide +kernel
theorem dX6_countOwned_60 : decode cX6_countOwned 60 = .ok (.goto (-35), 3) := by decide +kernel
theorem dX6_countOwned_63 : decode cX6_countOwned 63 = .ok (.iinc 3 1, 3) := by decide +kernel
theorem dX6_countOwned_66 : decode cX6_countOwned 66 = .ok (.goto (-55), 3) := by decide +kernel
theorem dX6_countOwned_69 : decode cX6_countOwned 69 = .ok (.iload_n 2, 1) := by decide +kernel
theorem dX6_countOwned_70 : decode cX6_countOwned 70 = .ok (.ireturn, 1) := by decide +kernel
set_option maxRecDepth 20000 in
theorem ggX6_turnDay_X2_farOn : GoodIn wsX6_turnDay wsX2_farOn := goodIn_r _ [9, 10, 11, 12, 13, 90, 91, 92, 93, 94, 95, 96, 97, 98, 99, 100, 101, 102, 103] (by decide +kernel) (by decide +kernel)
set_option maxRecDepth 20000 in
theorem gX6_turnDay_X2_farOn : GoodIn wsX6_turnDay (wsV RX6 117 RX2 yX2_farOn wsX2_farOn) := goodIn_app (goodIn_of _ (by decide +kernel)) ggX6_turnDay_X2_farOn
set_option maxRecDepth 20000 in
theorem ggX6_turnDay_X4_lookAll : GoodIn wsX6_turnDay wsX4_lookAll := goodIn_r _ [18, 19, 20, 21, 22, 23, 24, 17, 25, 26, 27, 28, 29, 30, 6, 7, 8, 9, 10, 11, 12, 13, 31, 32, 33, 34, 35, 36, 37, 38, 39, 40, 41, 42, 43, 44, 45, 46, 47, 48, 49, 50, 51, 52, 53, 54, 55, 56, 57, 58, 59, 60, 61, 62, 63, 64, 65, 66, 67, 68, 69, 70, 71, 72, 73, 74, 104, 105, 106, 107, 108, 109, 110, 111, 90, 91, 92, 93, 94, 95, 96, 97, 98, 99, 100, 101, 102, 103, 83, 84, 85, 86, 87, 88, 89] (by decide +kernel) (by decide +kernel)
set_option maxRecDepth 20000 in
theorem gX6_turnDay_X4_lookAll : GoodIn wsX6_turnDay (wsV RX6 145 RX4 yX4_lookAll wsX4_lookAll) := goodIn_app (goodIn_of _ (by decide +kernel)) ggX6_turnDay_X4_lookAll
theorem dX6_turnDay_0 : decode cX6_turnDay 0 = .ok (.aload_n 0, 1) := by decide +kernel
theorem dX6_turnDay_1 : decode cX6_turnDay 1 = .ok (.getfield 10, 3) := by decide +kernel
theorem dX6_turnDay_4 : decode cX6_turnDay 4 = .ok (.aload_n 0, 1) := by decide +kernel
theorem dX6_turnDay_5 : decode cX6_turnDay 5 = .ok (.getfield 26, 3) := by decide +kernel
theorem dX6_turnDay_8 : decode cX6_turnDay 8 = .ok (.getfield 114, 3) := by decide +kernel
theorem dX6_turnDay_11 : decode cX6_turnDay 11 = .ok (.invokevirtual 117, 3) := by decide +kernel
theorem dX6_turnDay_14 : decode cX6_turnDay 14 = .ok (.istore_n 1, 1) := by decide +kernel
theorem dX6_turnDay_15 : decode cX6_turnDay 15 = .ok (.aload_n 0, 1) := by decide +kernel
theorem dX6_turnDay_16 : decode cX6_turnDay 16 = .ok (.getfield 26, 3) := by decide +kernel
theorem dX6_turnDay_19 : decode cX6_turnDay 19 = .ok (.dup, 1) := by decide +kernel
theorem dX6_turnDay_20 : decode cX6_turnDay 20 = .ok (.getfield 114, 3) := by decide +kernel
theorem dX6_turnDay_23 : decode cX6_turnDay 23 = .ok (.iconst 1, 1) := by decide +kernel
theorem dX6_turnDay_24 : decode cX6_turnDay 24 = .ok (.iadd, 1) := by decide +kernel
theorem dX6_turnDay_25 : decode cX6_turnDay 25 = .ok (.putfield 114, 3) := by decide +kernel
theorem dX6_turnDay_28 : decode cX6_turnDay 28 = .ok (.aload_n 0, 1) := by decide +kernel
theorem dX6_turnDay_29 : decode cX6_turnDay 29 = .ok (.getfield 10, 3) := by decide +kernel
theorem dX6_turnDay_32 : decode cX6_turnDay 32 = .ok (.aload_n 0, 1) := by decide +kernel
theorem dX6_turnDay_33 : decode cX6_turnDay 33 = .ok (.getfield 26, 3) := by decide +kernel
theorem dX6_turnDay_36 : decode cX6_turnDay 36 = .ok (.getfield 114, 3) := by decide +kernel
theorem dX6_turnDay_39 : decode cX6_turnDay 39 = .ok (.invokevirtual 117, 3) := by decide +kernel
theorem dX6_turnDay_42 : decode cX6_turnDay 42 = .ok (.iload_n 1, 1) := by decide +kernel
theorem dX6_turnDay_43 : decode cX6_turnDay 43 = .ok (.if_icmp .ne 5, 3) := by decide +kernel
theorem dX6_turnDay_46 : decode cX6_turnDay 46 = .ok (.iconst 0, 1) := by decide +kernel
theorem dX6_turnDay_47 : decode cX6_turnDay 47 = .ok (.ireturn, 1) := by decide +kernel
theorem dX6_turnDay_48 : decode cX6_turnDay 48 = .ok (.aload_n 0, 1) := by decide +kernel
theorem dX6_turnDay_49 : decode cX6_turnDay 49 = .ok (.getfield 39, 3) := by decide +kernel
theorem dX6_turnDay_52 : decode cX6_turnDay 52 = .ok (.invokevirtual 145, 3) := by decide +kernel
theorem dX6_turnDay_55 : decode cX6_turnDay 55 = .ok (.iconst 1, 1) := by decide +kernel
theorem dX6_turnDay_56 : decode cX6_turnDay 56 = .ok (.ireturn, 1) := by decide +kernel
set_option maxRecDepth 20000 in
theorem ggX6_actByDraws_X5_draw : GoodIn wsX6_actByDraws wsX5_draw := goodIn_r _ [18, 19, 20, 21, 22, 23, 123, 124, 125, 126, 127, 128, 129] (by decide +kernel) (by decide +kernel)
set_option maxRecDepth 20000 in
theorem gX6_actByDraws_X5_draw : GoodIn wsX6_actByDraws (wsV RX6 285 RX5 yX5_draw wsX5_draw) := goodIn_app (goodIn_of _ (by decide +kernel)) ggX6_actByDraws_X5_draw
set_option maxRecDepth 20000 in
theorem ggX6_actByDraws_X5_addStorey : GoodIn wsX6_actByDraws wsX5_addStorey := goodIn_r _ [27, 28, 29, 123, 124, 125, 126, 127, 128, 129] (by decide +kernel) (by decide +kernel)
set_option maxRecDepth 20000 in
theorem gX6_actByDraws_X5_addStorey : GoodIn wsX6_actByDraws (wsV RX6 194 RX5 yX5_addStorey wsX5_addStorey) := goodIn_app (goodIn_of _ (by decide +kernel)) ggX6_actByDraws_X5_addStorey
set_option maxRecDepth 20000 in
theorem ggX6_actByDraws_X4_lookBy : GoodIn wsX6_actByDraws wsX4_lookBy := goodIn_r _ [34, 35, 36, 37, 38, 39, 40, 41, 42, 43, 44, 45, 46, 47, 48, 49, 50, 51, 33, 52, 53, 54, 55, 56, 57, 58, 59, 12, 60, 61, 11, 13, 62, 63, 64, 65, 66, 67, 68, 69, 70, 71, 72, 73, 74, 75, 76, 77, 78, 79, 80, 81, 82, 83, 84, 85, 86, 87, 88, 89, 90, 130, 131, 132, 133, 134, 135, 136, 137, 123, 124, 125, 126, 127, 128, 129, 109, 110, 111, 112, 113, 114, 115, 116, 117, 118, 119, 120, 121, 122] (by decide +kernel) (by decide +kernel)
set_option maxRecDepth 20000 in
theorem gX6_actByDraws_X4_lookBy : GoodIn wsX6_actByDraws (wsV RX6 226 RX4 yX4_lookBy wsX4_lookBy) := goodIn_app (goodIn_of _ (by decide +kernel)) ggX6_actByDraws_X4_lookBy
set_option maxRecDepth 20000 in
theorem ggX6_actByDraws_X2_cells : GoodIn wsX6_actByDraws wsX2_cells := goodIn_r _ [94, 82, 95, 109, 110, 111, 112, 113, 114, 115, 116, 117, 118, 119, 120, 121, 122] (by decide +kernel) (by decide +kernel)
set_option maxRecDepth 20000 in
theorem gX6_actByDraws_X2_cells : GoodIn wsX6_actByDraws (wsV RX6 95 RX2 yX2_cells wsX2_cells) := goodIn_app (goodIn_of _ (by decide +kernel)) ggX6_actByDraws_X2_cells
set_option maxRecDepth 20000 in
theorem ggX6_actByDraws_X4_lookOver : GoodIn wsX6_actByDraws wsX4_lookOver := goodIn_r _ [99, 35, 36, 37, 100, 38, 39, 40, 41, 42, 43, 44, 45, 46, 47, 48, 74, 75, 76, 33, 77, 57, 49, 50, 51, 52, 53, 54, 55, 56, 58, 59, 12, 60, 61, 11, 13, 62, 63, 64, 65, 66, 67, 68, 69, 70, 71, 72, 73, 78, 79, 80, 81, 82, 83, 84, 85, 86, 87, 88, 89, 90, 130, 131, 132, 133, 134, 135, 136, 137, 123, 124, 125, 126, 127, 128, 129, 109, 110, 111, 112, 113, 114, 115, 116, 117, 118, 119, 120, 121, 122] (by decide +kernel) (by decide +kernel)
set_option maxRecDepth 20000 in
theorem gX6_actByDraws_X4_lookOver : GoodIn wsX6_actByDraws (wsV RX6 230 RX4 yX4_lookOver wsX4_lookOver) := goodIn_app (goodIn_of _ (by decide +kernel)) ggX6_actByDraws_X4_lookOver
theorem dX6_actByDraws_0 : decode cX6_actByDraws 0 = .ok (.aload_n 0, 1) := by decide +kernel
theorem dX6_actByDraws_1 : decode cX6_actByDraws 1 = .ok (.getfield 26, 3) := by decide +kernel
theorem dX6_actByDraws_4 : decode cX6_actByDraws 4 = .ok (.aload_n 0, 1) := by decide +kernel
theorem dX6_actByDraws_5 : decode cX6_actByDraws 5 = .ok (.getfield 10, 3) := by decide +kernel
theorem dX6_actByDraws_8 : decode cX6_actByDraws 8 = .ok (.getfield 108, 3) := by decide +kernel
theorem dX6_actByDraws_11 : decode cX6_actByDraws 11 = .ok (.invokevirtual 285, 3) := by decide +kernel
theorem dX6_actByDraws_14 : decode cX6_actByDraws 14 = .ok (.istore_n 1, 1) := by decide +kernel
theorem dX6_actByDraws_15 : decode cX6_actByDraws 15 = .ok (.aload_n 0, 1) := by decide +kernel
theorem dX6_actByDraws_16 : decode cX6_actByDraws 16 = .ok (.getfield 26, 3) := by decide +kernel
theorem dX6_actByDraws_19 : decode cX6_actByDraws 19 = .ok (.getfield 170, 3) := by decide +kernel
theorem dX6_actByDraws_22 : decode cX6_actByDraws 22 = .ok (.iload_n 1, 1) := by decide +kernel
theorem dX6_actByDraws_23 : decode cX6_actByDraws 23 = .ok (.iaload, 1) := by decide +kernel
theorem dX6_actByDraws_24 : decode cX6_actByDraws 24 = .ok (.aload_n 0, 1) := by decide +kernel
theorem dX6_actByDraws_25 : decode cX6_actByDraws 25 = .ok (.getfield 10, 3) := by decide +kernel
theorem dX6_actByDraws_28 : decode cX6_actByDraws 28 = .ok (.getfield 124, 3) := by decide +kernel
theorem dX6_actByDraws_31 : decode cX6_actByDraws 31 = .ok (.if_icmp .lt 41, 3) := by decide +kernel
theorem dX6_actByDraws_34 : decode cX6_actByDraws 34 = .ok (.aload_n 0, 1) := by decide +kernel
theorem dX6_actByDraws_35 : decode cX6_actByDraws 35 = .ok (.getfield 26, 3) := by decide +kernel
theorem dX6_actByDraws_38 : decode cX6_actByDraws 38 = .ok (.getfield 164, 3) := by decide +kernel
theorem dX6_actByDraws_41 : decode cX6_actByDraws 41 = .ok (.iload_n 1, 1) := by decide +kernel
theorem dX6_actByDraws_42 : decode cX6_actByDraws 42 = .ok (.iaload, 1) := by decide +kernel
theorem dX6_actByDraws_43 : decode cX6_actByDraws 43 = .ok (.bipush 9, 2) := by decide +kernel
theorem dX6_actByDraws_45 : decode cX6_actByDraws 45 = .ok (.if_icmp .ge 27, 3) := by decide +kernel
theorem dX6_actByDraws_48 : decode cX6_actByDraws 48 = .ok (.aload_n 0, 1) := by decide +kernel
theorem dX6_actByDraws_49 : decode cX6_actByDraws 49 = .ok (.getfield 26, 3) := by decide +kernel
theorem dX6_actByDraws_52 : decode cX6_actByDraws 52 = .ok (.iload_n 1, 1) := by decide +kernel
theorem dX6_actByDraws_53 : decode cX6_actByDraws 53 = .ok (.aload_n 0, 1) := by decide +kernel
theorem dX6_actByDraws_54 : decode cX6_actByDraws 54 = .ok (.getfield 10, 3) := by decide +kernel
theorem dX6_actByDraws_57 : decode cX6_actByDraws 57 = .ok (.getfield 124, 3) := by decide +kernel
theorem dX6_actByDraws_60 : decode cX6_actByDraws 60 = .ok (.invokevirtual 194, 3) := by decide +kernel
theorem dX6_actByDraws_63 : decode cX6_actByDraws 63 = .ok (.aload_n 0, 1) := by decide +kernel
theorem dX6_actByDraws_64 : decode cX6_actByDraws 64 = .ok (.getfield 39, 3) := by decide +kernel
theorem dX6_actByDraws_67 : decode cX6_actByDraws 67 = .ok (.iload_n 1, 1) := by decide +kernel
theorem dX6_actByDraws_68 : decode cX6_actByDraws 68 = .ok (.invokevirtual 226, 3) := by decide +kernel
theorem dX6_actByDraws_71 : decode cX6_actByDraws 71 = .ok (.return_, 1) := by decide +kernel
theorem dX6_actByDraws_72 : decode cX6_actByDraws 72 = .ok (.aload_n 0, 1) := by decide +kernel
theorem dX6_actByDraws_73 : decode cX6_actByDraws 73 = .ok (.getfield 26, 3) := by decide +kernel
theorem dX6_actByDraws_76 : decode cX6_actByDraws 76 = .ok (.aload_n 0, 1) := by decide +kernel
theorem dX6_actByDraws_77 : decode cX6_actByDraws 77 = .ok (.getfield 10, 3) := by decide +kernel
theorem dX6_actByDraws_80 : decode cX6_actByDraws 80 = .ok (.invokevirtual 95, 3) := by decide +kernel
theorem dX6_actByDraws_83 : decode cX6_actByDraws 83 = .ok (.invokevirtual 285, 3) := by decide +kernel
theorem dX6_actByDraws_86 : decode cX6_actByDraws 86 = .ok (.istore_n 2, 1) := by decide +kernel
theorem dX6_actByDraws_87 : decode cX6_actByDraws 87 = .ok (.aload_n 0, 1) := by decide +kernel
theorem dX6_actByDraws_88 : decode cX6_actByDraws 88 = .ok (.getfield 26, 3) := by decide +kernel
theorem dX6_actByDraws_91 : decode cX6_actByDraws 91 = .ok (.getfield 139, 3) := by decide +kernel
theorem dX6_actByDraws_94 : decode cX6_actByDraws 94 = .ok (.iload_n 2, 1) := by decide +kernel
theorem dX6_actByDraws_95 : decode cX6_actByDraws 95 = .ok (.aload_n 0, 1) := by decide +kernel
theorem dX6_actByDraws_96 : decode cX6_actByDraws 96 = .ok (.getfield 26, 3) := by decide +kernel
theorem dX6_actByDraws_99 : decode cX6_actByDraws 99 = .ok (.bipush 10, 2) := by decide +kernel
theorem dX6_actByDraws_101 : decode cX6_actByDraws 101 = .ok (.invokevirtual 285, 3) := by decide +kernel
theorem dX6_actByDraws_104 : decode cX6_actByDraws 104 = .ok (.iastore, 1) := by decide +kernel
theorem dX6_actByDraws_105 : decode cX6_actByDraws 105 = .ok (.iconst 1, 1) := by decide +kernel
theorem dX6_actByDraws_106 : decode cX6_actByDraws 106 = .ok (.aload_n 0, 1) := by decide +kernel
theorem dX6_actByDraws_107 : decode cX6_actByDraws 107 = .ok (.getfield 10, 3) := by decide +kernel
theorem dX6_actByDraws_110 : decode cX6_actByDraws 110 = .ok (.getfield 102, 3) := by decide +kernel
theorem dX6_actByDraws_113 : decode cX6_actByDraws 113 = .ok (.invokestatic 261, 3) := by decide +kernel
theorem dX6_actByDraws_116 : decode cX6_actByDraws 116 = .ok (.istore_n 3, 1) := by decide +kernel
theorem dX6_actByDraws_117 : decode cX6_actByDraws 117 = .ok (.aload_n 0, 1) := by decide +kernel
theorem dX6_actByDraws_118 : decode cX6_actByDraws 118 = .ok (.getfield 39, 3) := by decide +kernel
theorem dX6_actByDraws_121 : decode cX6_actByDraws 121 = .ok (.iload_n 2, 1) := by decide +kernel
theorem dX6_actByDraws_122 : decode cX6_actByDraws 122 = .ok (.iload_n 3, 1) := by decide +kernel
theorem dX6_actByDraws_123 : decode cX6_actByDraws 123 = .ok (.irem, 1) := by decide +kernel
theorem dX6_actByDraws_124 : decode cX6_actByDraws 124 = .ok (.iload_n 2, 1) := by decide +kernel
theorem dX6_actByDraws_125 : decode cX6_actByDraws 125 = .ok (.iload_n 3, 1) := by decide +kernel
theorem dX6_actByDraws_126 : decode cX6_actByDraws 126 = .ok (.idiv, 1) := by decide +kernel
theorem dX6_actByDraws_127 : decode cX6_actByDraws 127 = .ok (.invokevirtual 230, 3) := by decide +kernel
theorem dX6_actByDraws_130 : decode cX6_actByDraws 130 = .ok (.return_, 1) := by decide +kernel
set_option maxRecDepth 20000 in
theorem ggX6_countEnds_X4_lookAll : GoodIn wsX6_countEnds wsX4_lookAll := goodIn_r _ [11, 12, 13, 14, 15, 16, 17, 10, 18, 19, 20, 21, 22, 23, 24, 25, 26, 27, 28, 29, 30, 31, 32, 33, 34, 35, 36, 37, 38, 39, 40, 41, 42, 43, 44, 45, 46, 47, 48, 49, 50, 51, 52, 53, 54, 55, 56, 57, 58, 59, 60, 61, 62, 63, 64, 65, 66, 67, 68, 69, 70, 71, 72, 73, 74, 75, 141, 142, 143, 144, 145, 146, 147, 148, 127, 128, 129, 130, 131, 132, 133, 134, 135, 136, 137, 138, 139, 140, 120, 121, 122, 123, 124, 125, 126] (by decide +kernel) (by decide +kernel)
set_option maxRecDepth 20000 in
theorem gX6_countEnds_X4_lookAll : GoodIn wsX6_countEnds (wsV RX6 145 RX4 yX4_lookAll wsX4_lookAll) := goodIn_app (goodIn_of _ (by decide +kernel)) ggX6_countEnds_X4_lookAll
set_option maxRecDepth 20000 in
theorem ggX6_countEnds_X4_lookBy : GoodIn wsX6_countEnds wsX4_lookBy := goodIn_r _ [18, 13, 19, 20, 21, 22, 23, 24, 25, 26, 27, 28, 29, 30, 31, 32, 33, 34, 10, 35, 36, 37, 38, 39, 40, 41, 42, 43, 44, 45, 46, 47, 48, 49, 50, 51, 52, 53, 54, 55, 56, 57, 58, 59, 60, 61, 62, 63, 64, 65, 66, 67, 68, 69, 70, 71, 72, 73, 74, 75, 12, 141, 142, 143, 144, 145, 146, 147, 148, 120, 121, 122, 123, 124, 125, 126, 127, 128, 129, 130, 131, 132, 133, 134, 135, 136, 137, 138, 139, 140] (by decide +kernel) (by decide +kernel)
set_option maxRecDepth 20000 in
theorem gX6_countEnds_X4_lookBy : GoodIn wsX6_countEnds (wsV RX6 226 RX4 yX4_lookBy wsX4_lookBy) := goodIn_app (goodIn_of _ (by decide +kernel)) ggX6_countEnds_X4_lookBy
set_option maxRecDepth 20000 in
theorem ggX6_countEnds_X4_shareOf : GoodIn wsX6_countEnds wsX4_shareOf := goodIn_r _ [80, 13, 21, 22, 45, 46, 43, 47, 81, 82, 83, 10, 84, 85, 86, 87, 88, 12, 19, 89, 64, 65, 66, 26, 67, 68, 90, 91, 92, 93, 14, 40, 94, 70, 95, 96, 97, 98, 99, 53, 54, 55, 56, 57, 58, 59, 100, 101, 102, 103, 104, 105, 106, 107, 108, 109, 110, 111, 141, 142, 143, 144, 145, 146, 147, 148, 127, 128, 129, 130, 131, 132, 133, 134, 135, 136, 137, 138, 139, 140, 120, 121, 122, 123, 124, 125, 126] (by decide +kernel) (by decide +kernel)
set_option maxRecDepth 20000 in
theorem gX6_countEnds_X4_shareOf : GoodIn wsX6_countEnds (wsV RX6 187 RX4 yX4_shareOf wsX4_shareOf) := goodIn_app (goodIn_of _ (by decide +kernel)) ggX6_countEnds_X4_shareOf
theorem dX6_countEnds_0 : decode cX6_countEnds 0 = .ok (.aload_n 0, 1) := by decide +kernel
theorem dX6_countEnds_1 : decode cX6_countEnds 1 = .ok (.getfield 26, 3) := by decide +kernel
theorem dX6_countEnds_4 : decode cX6_countEnds 4 = .ok (.getfield 164, 3) := by decide +kernel
theorem dX6_countEnds_7 : decode cX6_countEnds 7 = .ok (.iload_n 1, 1) := by decide +kernel
theorem dX6_countEnds_8 : decode cX6_countEnds 8 = .ok (.iaload, 1) := by decide +kernel
theorem dX6_countEnds_9 : decode cX6_countEnds 9 = .ok (.istore 6, 2) := by decide +kernel
theorem dX6_countEnds_11 : decode cX6_countEnds 11 = .ok (.aload_n 0, 1) := by decide +kernel
theorem dX6_countEnds_12 : decode cX6_countEnds 12 = .ok (.getfield 26, 3) := by decide +kernel
theorem dX6_countEnds_15 : decode cX6_countEnds 15 = .ok (.getfield 164, 3) := by decide +kernel
theorem dX6_countEnds_18 : decode cX6_countEnds 18 = .ok (.iload_n 2, 1) := by decide +kernel
theorem dX6_countEnds_19 : decode cX6_countEnds 19 = .ok (.iaload, 1) := by decide +kernel
theorem dX6_countEnds_20 : decode cX6_countEnds 20 = .ok (.istore 7, 2) := by decide +kernel
theorem dX6_countEnds_22 : decode cX6_countEnds 22 = .ok (.aload_n 0, 1) := by decide +kernel
theorem dX6_countEnds_23 : decode cX6_countEnds 23 = .ok (.getfield 39, 3) := by decide +kernel
theorem dX6_countEnds_26 : decode cX6_countEnds 26 = .ok (.invokevirtual 145, 3) := by decide +kernel
theorem dX6_countEnds_29 : decode cX6_countEnds 29 = .ok (.iconst 0, 1) := by decide +kernel
theorem dX6_countEnds_30 : decode cX6_countEnds 30 = .ok (.istore 8, 2) := by decide +kernel
theorem dX6_countEnds_32 : decode cX6_countEnds 32 = .ok (.iload 8, 2) := by decide +kernel
theorem dX6_countEnds_34 : decode cX6_countEnds 34 = .ok (.iload 4, 2) := by decide +kernel
theorem dX6_countEnds_36 : decode cX6_countEnds 36 = .ok (.if_icmp .gt 118, 3) := by decide +kernel
theorem dX6_countEnds_39 : decode cX6_countEnds 39 = .ok (.aload_n 0, 1) := by decide +kernel
theorem dX6_countEnds_40 : decode cX6_countEnds 40 = .ok (.getfield 26, 3) := by decide +kernel
theorem dX6_countEnds_43 : decode cX6_countEnds 43 = .ok (.getfield 164, 3) := by decide +kernel
theorem dX6_countEnds_46 : decode cX6_countEnds 46 = .ok (.iload_n 1, 1) := by decide +kernel
theorem dX6_countEnds_47 : decode cX6_countEnds 47 = .ok (.iload 6, 2) := by decide +kernel
theorem dX6_countEnds_49 : decode cX6_countEnds 49 = .ok (.iload 8, 2) := by decide +kernel
theorem dX6_countEnds_51 : decode cX6_countEnds 51 = .ok (.iadd, 1) := by decide +kernel
theorem dX6_countEnds_52 : decode cX6_countEnds 52 = .ok (.iastore, 1) := by decide +kernel
theorem dX6_countEnds_53 : decode cX6_countEnds 53 = .ok (.aload_n 0, 1) := by decide +kernel
theorem dX6_countEnds_54 : decode cX6_countEnds 54 = .ok (.getfield 39, 3) := by decide +kernel
theorem dX6_countEnds_57 : decode cX6_countEnds 57 = .ok (.iload_n 1, 1) := by decide +kernel
theorem dX6_countEnds_58 : decode cX6_countEnds 58 = .ok (.invokevirtual 226, 3) := by decide +kernel
theorem dX6_countEnds_61 : decode cX6_countEnds 61 = .ok (.iconst 0, 1) := by decide +kernel
theorem dX6_countEnds_62 : decode cX6_countEnds 62 = .ok (.istore 9, 2) := by decide +kernel
theorem dX6_countEnds_64 : decode cX6_countEnds 64 = .ok (.iload 9, 2) := by decide +kernel
theorem dX6_countEnds_66 : decode cX6_countEnds 66 = .ok (.iload 5, 2) := by decide +kernel
theorem dX6_countEnds_68 : decode cX6_countEnds 68 = .ok (.if_icmp .gt 80, 3) := by decide +kernel
theorem dX6_countEnds_71 : decode cX6_countEnds 71 = .ok (.aload_n 0, 1) := by decide +kernel
theorem dX6_countEnds_72 : decode cX6_countEnds 72 = .ok (.getfield 26, 3) := by decide +kernel
theorem dX6_countEnds_75 : decode cX6_countEnds 75 = .ok (.getfield 164, 3) := by decide +kernel
theorem dX6_countEnds_78 : decode cX6_countEnds 78 = .ok (.iload_n 2, 1) := by decide +kernel
theorem dX6_countEnds_79 : decode cX6_countEnds 79 = .ok (.iload 7, 2) := by decide +kernel
theorem dX6_countEnds_81 : decode cX6_countEnds 81 = .ok (.iload 9, 2) := by decide +kernel
theorem dX6_countEnds_83 : decode cX6_countEnds 83 = .ok (.iadd, 1) := by decide +kernel
theorem dX6_countEnds_84 : decode cX6_countEnds 84 = .ok (.iastore, 1) := by decide +kernel
theorem dX6_countEnds_85 : decode cX6_countEnds 85 = .ok (.aload_n 0, 1) := by decide +kernel
theorem dX6_countEnds_86 : decode cX6_countEnds 86 = .ok (.getfield 39, 3) := by decide +kernel
theorem dX6_countEnds_89 : decode cX6_countEnds 89 = .ok (.iload_n 2, 1) := by decide +kernel
theorem dX6_countEnds_90 : decode cX6_countEnds 90 = .ok (.invokevirtual 226, 3) := by decide +kernel
theorem dX6_countEnds_93 : decode cX6_countEnds 93 = .ok (.aload_n 0, 1) := by decide +kernel
theorem dX6_countEnds_94 : decode cX6_countEnds 94 = .ok (.getfield 39, 3) := by decide +kernel
theorem dX6_countEnds_97 : decode cX6_countEnds 97 = .ok (.iload_n 1, 1) := by decide +kernel
theorem dX6_countEnds_98 : decode cX6_countEnds 98 = .ok (.invokevirtual 187, 3) := by decide +kernel
theorem dX6_countEnds_101 : decode cX6_countEnds 101 = .ok (.aload_n 0, 1) := by decide +kernel
theorem dX6_countEnds_102 : decode cX6_countEnds 102 = .ok (.getfield 39, 3) := by decide +kernel
theorem dX6_countEnds_105 : decode cX6_countEnds 105 = .ok (.iload_n 2, 1) := by decide +kernel
theorem dX6_countEnds_106 : decode cX6_countEnds 106 = .ok (.invokevirtual 187, 3) := by decide +kernel
theorem dX6_countEnds_109 : decode cX6_countEnds 109 = .ok (.isub, 1) := by decide +kernel
theorem dX6_countEnds_110 : decode cX6_countEnds 110 = .ok (.istore 10, 2) := by decide +kernel
theorem dX6_countEnds_112 : decode cX6_countEnds 112 = .ok (.aload_n 0, 1) := by decide +kernel
theorem dX6_countEnds_113 : decode cX6_countEnds 113 = .ok (.getfield 57, 3) := by decide +kernel
theorem dX6_countEnds_116 : decode cX6_countEnds 116 = .ok (.iload 8, 2) := by decide +kernel
theorem dX6_countEnds_118 : decode cX6_countEnds 118 = .ok (.iconst 4, 1) := by decide +kernel
theorem dX6_countEnds_119 : decode cX6_countEnds 119 = .ok (.imul, 1) := by decide +kernel
theorem dX6_countEnds_120 : decode cX6_countEnds 120 = .ok (.iload 9, 2) := by decide +kernel
theorem dX6_countEnds_122 : decode cX6_countEnds 122 = .ok (.iadd, 1) := by decide +kernel
theorem dX6_countEnds_123 : decode cX6_countEnds 123 = .ok (.iload 10, 2) := by decide +kernel
theorem dX6_countEnds_125 : decode cX6_countEnds 125 = .ok (.iload_n 3, 1) := by decide +kernel
theorem dX6_countEnds_126 : decode cX6_countEnds 126 = .ok (.imul, 1) := by decide +kernel
theorem dX6_countEnds_127 : decode cX6_countEnds 127 = .ok (.iload 8, 2) := by decide +kernel
theorem dX6_countEnds_129 : decode cX6_countEnds 129 = .ok (.iload 9, 2) := by decide +kernel
theorem dX6_countEnds_131 : decode cX6_countEnds 131 = .ok (.isub, 1) := by decide +kernel
theorem dX6_countEnds_132 : decode cX6_countEnds 132 = .ok (.aload_n 0, 1) := by decide +kernel
theorem dX6_countEnds_133 : decode cX6_countEnds 133 = .ok (.getfield 10, 3) := by decide +kernel
theorem dX6_countEnds_136 : decode cX6_countEnds 136 = .ok (.getfield 124, 3) := by decide +kernel
theorem dX6_countEnds_139 : decode cX6_countEnds 139 = .ok (.imul, 1) := by decide +kernel
theorem dX6_countEnds_140 : decode cX6_countEnds 140 = .ok (.isub, 1) := by decide +kernel
theorem dX6_countEnds_141 : decode cX6_countEnds 141 = .ok (.iastore, 1) := by decide +kernel
theorem dX6_countEnds_142 : decode cX6_countEnds 142 = .ok (.iinc 9 1, 3) := by decide +kernel
theorem dX6_countEnds_145 : decode cX6_countEnds 145 = .ok (.goto (-81), 3) := by decide +kernel
theorem dX6_countEnds_148 : decode cX6_countEnds 148 = .ok (.iinc 8 1, 3) := by decide +kernel
theorem dX6_countEnds_151 : decode cX6_countEnds 151 = .ok (.goto (-119), 3) := by decide +kernel
theorem dX6_countEnds_154 : decode cX6_countEnds 154 = .ok (.aload_n 0, 1) := by decide +kernel
theorem dX6_countEnds_155 : decode cX6_countEnds 155 = .ok (.getfield 26, 3) := by decide +kernel
theorem dX6_countEnds_158 : decode cX6_countEnds 158 = .ok (.getfield 164, 3) := by decide +kernel
theorem dX6_countEnds_161 : decode cX6_countEnds 161 = .ok (.iload_n 1, 1) := by decide +kernel
theorem dX6_countEnds_162 : decode cX6_countEnds 162 = .ok (.iload 6, 2) := by decide +kernel
theorem dX6_countEnds_164 : decode cX6_countEnds 164 = .ok (.iastore, 1) := by decide +kernel
theorem dX6_countEnds_165 : decode cX6_countEnds 165 = .ok (.aload_n 0, 1) := by decide +kernel
theorem dX6_countEnds_166 : decode cX6_countEnds 166 = .ok (.getfield 26, 3) := by decide +kernel
theorem dX6_countEnds_169 : decode cX6_countEnds 169 = .ok (.getfield 164, 3) := by decide +kernel
theorem dX6_countEnds_172 : decode cX6_countEnds 172 = .ok (.iload_n 2, 1) := by decide +kernel
theorem dX6_countEnds_173 : decode cX6_countEnds 173 = .ok (.iload 7, 2) := by decide +kernel
theorem dX6_countEnds_175 : decode cX6_countEnds 175 = .ok (.iastore, 1) := by decide +kernel
theorem dX6_countEnds_176 : decode cX6_countEnds 176 = .ok (.return_, 1) := by decide +kernel
theorem dX6_takeMoveBack_0 : decode cX6_takeMoveBack 0 = .ok (.iconst 4, 1) := by decide +kernel
theorem dX6_takeMoveBack_1 : decode cX6_takeMoveBack 1 = .ok (.istore 4, 2) := by decide +kernel
theorem dX6_takeMoveBack_3 : decode cX6_takeMoveBack 3 = .ok (.iconst 0, 1) := by decide +kernel
theorem dX6_takeMoveBack_4 : decode cX6_takeMoveBack 4 = .ok (.istore 5, 2) := by decide +kernel
theorem dX6_takeMoveBack_6 : decode cX6_takeMoveBack 6 = .ok (.iload 5, 2) := by decide +kernel
theorem dX6_takeMoveBack_8 : decode cX6_takeMoveBack 8 = .ok (.iload_n 2, 1) := by decide +kernel
theorem dX6_takeMoveBack_9 : decode cX6_takeMoveBack 9 = .ok (.if_icmp .gt 107, 3) := by decide +kernel
theorem dX6_takeMoveBack_12 : decode cX6_takeMoveBack 12 = .ok (.iconst 0, 1) := by decide +kernel
theorem dX6_takeMoveBack_13 : decode cX6_takeMoveBack 13 = .ok (.istore 6, 2) := by decide +kernel
theorem dX6_takeMoveBack_15 : decode cX6_takeMoveBack 15 = .ok (.iload 6, 2) := by decide +kernel
theorem dX6_takeMoveBack_17 : decode cX6_takeMoveBack 17 = .ok (.iload_n 3, 1) := by decide +kernel
theorem dX6_takeMoveBack_18 : decode cX6_takeMoveBack 18 = .ok (.if_icmp .gt 92, 3) := by decide +kernel
theorem dX6_takeMoveBack_21 : decode cX6_takeMoveBack 21 = .ok (.iload 5, 2) := by decide +kernel
theorem dX6_takeMoveBack_23 : decode cX6_takeMoveBack 23 = .ok (.iload 4, 2) := by decide +kernel
theorem dX6_takeMoveBack_25 : decode cX6_takeMoveBack 25 = .ok (.imul, 1) := by decide +kernel
theorem dX6_takeMoveBack_26 : decode cX6_takeMoveBack 26 = .ok (.iload 6, 2) := by decide +kernel
theorem dX6_takeMoveBack_28 : decode cX6_takeMoveBack 28 = .ok (.iadd, 1) := by decide +kernel
theorem dX6_takeMoveBack_29 : decode cX6_takeMoveBack 29 = .ok (.istore 7, 2) := by decide +kernel
theorem dX6_takeMoveBack_31 : decode cX6_takeMoveBack 31 = .ok (.iload_n 1, 1) := by decide +kernel
theorem dX6_takeMoveBack_32 : decode cX6_takeMoveBack 32 = .ok (.ifCond .eq 36, 3) := by decide +kernel
theorem dX6_takeMoveBack_35 : decode cX6_takeMoveBack 35 = .ok (.iload 5, 2) := by decide +kernel
theorem dX6_takeMoveBack_37 : decode cX6_takeMoveBack 37 = .ok (.iload_n 2, 1) := by decide +kernel
theorem dX6_takeMoveBack_38 : decode cX6_takeMoveBack 38 = .ok (.if_icmp .ge 30, 3) := by decide +kernel
theorem dX6_takeMoveBack_41 : decode cX6_takeMoveBack 41 = .ok (.aload_n 0, 1) := by decide +kernel
theorem dX6_takeMoveBack_42 : decode cX6_takeMoveBack 42 = .ok (.getfield 57, 3) := by decide +kernel
theorem dX6_takeMoveBack_45 : decode cX6_takeMoveBack 45 = .ok (.iload 7, 2) := by decide +kernel
theorem dX6_takeMoveBack_47 : decode cX6_takeMoveBack 47 = .ok (.aload_n 0, 1) := by decide +kernel
theorem dX6_takeMoveBack_48 : decode cX6_takeMoveBack 48 = .ok (.getfield 57, 3) := by decide +kernel
theorem dX6_takeMoveBack_51 : decode cX6_takeMoveBack 51 = .ok (.iload 7, 2) := by decide +kernel
theorem dX6_takeMoveBack_53 : decode cX6_takeMoveBack 53 = .ok (.iaload, 1) := by decide +kernel
theorem dX6_takeMoveBack_54 : decode cX6_takeMoveBack 54 = .ok (.aload_n 0, 1) := by decide +kernel
theorem dX6_takeMoveBack_55 : decode cX6_takeMoveBack 55 = .ok (.getfield 57, 3) := by decide +kernel
theorem dX6_takeMoveBack_58 : decode cX6_takeMoveBack 58 = .ok (.iload 7, 2) := by decide +kernel
theorem dX6_takeMoveBack_60 : decode cX6_takeMoveBack 60 = .ok (.iload 4, 2) := by decide +kernel
theorem dX6_takeMoveBack_62 : decode cX6_takeMoveBack 62 = .ok (.iadd, 1) := by decide +kernel
theorem dX6_takeMoveBack_63 : decode cX6_takeMoveBack 63 = .ok (.iaload, 1) := by decide +kernel
theorem dX6_takeMoveBack_64 : decode cX6_takeMoveBack 64 = .ok (.invokestatic 261, 3) := by decide +kernel
theorem dX6_takeMoveBack_67 : decode cX6_takeMoveBack 67 = .ok (.iastore, 1) := by decide +kernel
theorem dX6_takeMoveBack_68 : decode cX6_takeMoveBack 68 = .ok (.iload_n 1, 1) := by decide +kernel
theorem dX6_takeMoveBack_69 : decode cX6_takeMoveBack 69 = .ok (.ifCond .ne 35, 3) := by decide +kernel
theorem dX6_takeMoveBack_72 : decode cX6_takeMoveBack 72 = .ok (.iload 6, 2) := by decide +kernel
theorem dX6_takeMoveBack_74 : decode cX6_takeMoveBack 74 = .ok (.iload_n 3, 1) := by decide +kernel
theorem dX6_takeMoveBack_75 : decode cX6_takeMoveBack 75 = .ok (.if_icmp .ge 29, 3) := by decide +kernel
theorem dX6_takeMoveBack_78 : decode cX6_takeMoveBack 78 = .ok (.aload_n 0, 1) := by decide +kernel
theorem dX6_takeMoveBack_79 : decode cX6_takeMoveBack 79 = .ok (.getfield 57, 3) := by decide +kernel
theorem dX6_takeMoveBack_82 : decode cX6_takeMoveBack 82 = .ok (.iload 7, 2) := by decide +kernel
theorem dX6_takeMoveBack_84 : decode cX6_takeMoveBack 84 = .ok (.aload_n 0, 1) := by decide +kernel
theorem dX6_takeMoveBack_85 : decode cX6_takeMoveBack 85 = .ok (.getfield 57, 3) := by decide +kernel
theorem dX6_takeMoveBack_88 : decode cX6_takeMoveBack 88 = .ok (.iload 7, 2) := by decide +kernel
theorem dX6_takeMoveBack_90 : decode cX6_takeMoveBack 90 = .ok (.iaload, 1) := by decide +kernel
theorem dX6_takeMoveBack_91 : decode cX6_takeMoveBack 91 = .ok (.aload_n 0, 1) := by decide +kernel
theorem dX6_takeMoveBack_92 : decode cX6_takeMoveBack 92 = .ok (.getfield 57, 3) := by decide +kernel
theorem dX6_takeMoveBack_95 : decode cX6_takeMoveBack 95 = .ok (.iload 7, 2) := by decide +kernel
theorem dX6_takeMoveBack_97 : decode cX6_takeMoveBack 97 = .ok (.iconst 1, 1) := by decide +kernel
theorem dX6_takeMoveBack_98 : decode cX6_takeMoveBack 98 = .ok (.iadd, 1) := by decide +kernel
theorem dX6_takeMoveBack_99 : decode cX6_takeMoveBack 99 = .ok (.iaload, 1) := by decide +kernel
theorem dX6_takeMoveBack_100 : decode cX6_takeMoveBack 100 = .ok (.invokestatic 233, 3) := by decide +kernel
theorem dX6_takeMoveBack_103 : decode cX6_takeMoveBack 103 = .ok (.iastore, 1) := by decide +kernel
theorem dX6_takeMoveBack_104 : decode cX6_takeMoveBack 104 = .ok (.iinc 6 1, 3) := by decide +kernel
theorem dX6_takeMoveBack_107 : decode cX6_takeMoveBack 107 = .ok (.goto (-92), 3) := by decide +kernel
theorem dX6_takeMoveBack_110 : decode cX6_takeMoveBack 110 = .ok (.iinc 5 1, 3) := by decide +kernel
theorem dX6_takeMoveBack_113 : decode cX6_takeMoveBack 113 = .ok (.goto (-107), 3) := by decide +kernel
theorem dX6_takeMoveBack_116 : decode cX6_takeMoveBack 116 = .ok (.return_, 1) := by decide +kernel
theorem dX7_init_0 : decode cX7_init 0 = .ok (.aload_n 0, 1) := by decide +kernel
theorem dX7_init_1 : decode cX7_init 1 = .ok (.invokespecial 1, 3) := by decide +kernel
theorem dX7_init_4 : decode cX7_init 4 = .ok (.aload_n 0, 1) := by decide +kernel
theorem dX7_init_5 : decode cX7_init 5 = .ok (.bipush 6, 2) := by decide +kernel
theorem dX7_init_7 : decode cX7_init 7 = .ok (.newarray .int, 2) := by decide +kernel
theorem dX7_init_9 : decode cX7_init 9 = .ok (.putfield 7, 3) := by decide +kernel
theorem dX7_init_12 : decode cX7_init 12 = .ok (.aload_n 0, 1) := by decide +kernel
theorem dX7_init_13 : decode cX7_init 13 = .ok (.bipush 6, 2) := by decide +kernel
theorem dX7_init_15 : decode cX7_init 15 = .ok (.newarray .int, 2) := by decide +kernel
theorem dX7_init_17 : decode cX7_init 17 = .ok (.putfield 13, 3) := by decide +kernel
theorem dX7_init_20 : decode cX7_init 20 = .ok (.aload_n 0, 1) := by decide +kernel
theorem dX7_init_21 : decode cX7_init 21 = .ok (.bipush 6, 2) := by decide +kernel
theorem dX7_init_23 : decode cX7_init 23 = .ok (.newarray .int, 2) := by decide +kernel
theorem dX7_init_25 : decode cX7_init 25 = .ok (.putfield 16, 3) := by decide +kernel
theorem dX7_init_28 : decode cX7_init 28 = .ok (.aload_n 0, 1) := by decide +kernel
theorem dX7_init_29 : decode cX7_init 29 = .ok (.bipush 60, 2) := by decide +kernel
theorem dX7_init_31 : decode cX7_init 31 = .ok (.newarray .int, 2) := by decide +kernel
theorem dX7_init_33 : decode cX7_init 33 = .ok (.putfield 19, 3) := by decide +kernel
theorem dX7_init_36 : decode cX7_init 36 = .ok (.aload_n 0, 1) := by decide +kernel
theorem dX7_init_37 : decode cX7_init 37 = .ok (.bipush 60, 2) := by decide +kernel
theorem dX7_init_39 : decode cX7_init 39 = .ok (.newarray .int, 2) := by decide +kernel
theorem dX7_init_41 : decode cX7_init 41 = .ok (.putfield 22, 3) := by decide +kernel
theorem dX7_init_44 : decode cX7_init 44 = .ok (.aload_n 0, 1) := by decide +kernel
theorem dX7_init_45 : decode cX7_init 45 = .ok (.bipush 30, 2) := by decide +kernel
theorem dX7_init_47 : decode cX7_init 47 = .ok (.newarray .int, 2) := by decide +kernel
theorem dX7_init_49 : decode cX7_init 49 = .ok (.putfield 25, 3) := by decide +kernel
theorem dX7_init_52 : decode cX7_init 52 = .ok (.aload_n 0, 1) := by decide +kernel
theorem dX7_init_53 : decode cX7_init 53 = .ok (.iconst 3, 1) := by decide +kernel
theorem dX7_init_54 : decode cX7_init 54 = .ok (.putfield 28, 3) := by decide +kernel
theorem dX7_init_57 : decode cX7_init 57 = .ok (.aload_n 0, 1) := by decide +kernel
theorem dX7_init_58 : decode cX7_init 58 = .ok (.bipush 100, 2) := by decide +kernel
theorem dX7_init_60 : decode cX7_init 60 = .ok (.putfield 32, 3) := by decide +kernel
theorem dX7_init_63 : decode cX7_init 63 = .ok (.aload_n 0, 1) := by decide +kernel
theorem dX7_init_64 : decode cX7_init 64 = .ok (.bipush 6, 2) := by decide +kernel
theorem dX7_init_66 : decode cX7_init 66 = .ok (.newarray .int, 2) := by decide +kernel
theorem dX7_init_68 : decode cX7_init 68 = .ok (.putfield 35, 3) := by decide +kernel
theorem dX7_init_71 : decode cX7_init 71 = .ok (.aload_n 0, 1) := by decide +kernel
theorem dX7_init_72 : decode cX7_init 72 = .ok (.bipush 6, 2) := by decide +kernel
theorem dX7_init_74 : decode cX7_init 74 = .ok (.newarray .int, 2) := by decide +kernel
theorem dX7_init_76 : decode cX7_init 76 = .ok (.putfield 38, 3) := by decide +kernel
theorem dX7_init_79 : decode cX7_init 79 = .ok (.aload_n 0, 1) := by decide +kernel
theorem dX7_init_80 : decode cX7_init 80 = .ok (.bipush 60, 2) := by decide +kernel
theorem dX7_init_82 : decode cX7_init 82 = .ok (.newarray .int, 2) := by decide +kernel
theorem dX7_init_84 : decode cX7_init 84 = .ok (.putfield 41, 3) := by decide +kernel
theorem dX7_init_87 : decode cX7_init 87 = .ok (.aload_n 0, 1) := by decide +kernel
theorem dX7_init_88 : decode cX7_init 88 = .ok (.sipush 500, 3) := by decide +kernel
theorem dX7_init_91 : decode cX7_init 91 = .ok (.newarray .int, 2) := by decide +kernel
theorem dX7_init_93 : decode cX7_init 93 = .ok (.putfield 44, 3) := by decide +kernel
theorem dX7_init_96 : decode cX7_init 96 = .ok (.aload_n 0, 1) := by decide +kernel
theorem dX7_init_97 : decode cX7_init 97 = .ok (.iconst (-1), 1) := by decide +kernel
theorem dX7_init_98 : decode cX7_init 98 = .ok (.putfield 47, 3) := by decide +kernel
theorem dX7_init_101 : decode cX7_init 101 = .ok (.aload_n 0, 1) := by decide +kernel
theorem dX7_init_102 : decode cX7_init 102 = .ok (.bipush 6, 2) := by decide +kernel
theorem dX7_init_104 : decode cX7_init 104 = .ok (.newarray .int, 2) := by decide +kernel
theorem dX7_init_106 : decode cX7_init 106 = .ok (.putfield 50, 3) := by decide +kernel
theorem dX7_init_109 : decode cX7_init 109 = .ok (.aload_n 0, 1) := by decide +kernel
theorem dX7_init_110 : decode cX7_init 110 = .ok (.bipush 6, 2) := by decide +kernel
theorem dX7_init_112 : decode cX7_init 112 = .ok (.newarray .int, 2) := by decide +kernel
theorem dX7_init_114 : decode cX7_init 114 = .ok (.putfield 53, 3) := by decide +kernel
theorem dX7_init_117 : decode cX7_init 117 = .ok (.aload_n 0, 1) := by decide +kernel
theorem dX7_init_118 : decode cX7_init 118 = .ok (.bipush 6, 2) := by decide +kernel
theorem dX7_init_120 : decode cX7_init 120 = .ok (.newarray .int, 2) := by decide +kernel
theorem dX7_init_122 : decode cX7_init 122 = .ok (.putfield 56, 3) := by decide +kernel
theorem dX7_init_125 : decode cX7_init 125 = .ok (.aload_n 0, 1) := by decide +kernel
theorem dX7_init_126 : decode cX7_init 126 = .ok (.bipush 60, 2) := by decide +kernel
theorem dX7_init_128 : decode cX7_init 128 = .ok (.newarray .int, 2) := by decide +kernel
theorem dX7_init_130 : decode cX7_init 130 = .ok (.putfield 59, 3) := by decide +kernel
theorem dX7_init_133 : decode cX7_init 133 = .ok (.aload_n 0, 1) := by decide +kernel
theorem dX7_init_134 : decode cX7_init 134 = .ok (.bipush 60, 2) := by decide +kernel
theorem dX7_init_136 : decode cX7_init 136 = .ok (.newarray .int, 2) := by decide +kernel
theorem dX7_init_138 : decode cX7_init 138 = .ok (.putfield 62, 3) := by decide +kernel
theorem dX7_init_141 : decode cX7_init 141 = .ok (.aload_n 0, 1) := by decide +kernel
theorem dX7_init_142 : decode cX7_init 142 = .ok (.bipush 30, 2) := by decide +kernel
theorem dX7_init_144 : decode cX7_init 144 = .ok (.newarray .int, 2) := by decide +kernel
theorem dX7_init_146 : decode cX7_init 146 = .ok (.putfield 65, 3) := by decide +kernel
theorem dX7_init_149 : decode cX7_init 149 = .ok (.aload_n 0, 1) := by decide +kernel
theorem dX7_init_150 : decode cX7_init 150 = .ok (.bipush 64, 2) := by decide +kernel
theorem dX7_init_152 : decode cX7_init 152 = .ok (.newarray .int, 2) := by decide +kernel
theorem dX7_init_154 : decode cX7_init 154 = .ok (.putfield 68, 3) := by decide +kernel
theorem dX7_init_157 : decode cX7_init 157 = .ok (.aload_n 0, 1) := by decide +kernel
theorem dX7_init_158 : decode cX7_init 158 = .ok (.bipush 60, 2) := by decide +kernel
theorem dX7_init_160 : decode cX7_init 160 = .ok (.newarray .int, 2) := by decide +kernel
theorem dX7_init_162 : decode cX7_init 162 = .ok (.putfield 71, 3) := by decide +kernel
theorem dX7_init_165 : decode cX7_init 165 = .ok (.aload_n 0, 1) := by decide +kernel
theorem dX7_init_166 : decode cX7_init 166 = .ok (.bipush 40, 2) := by decide +kernel
theorem dX7_init_168 : decode cX7_init 168 = .ok (.newarray .int, 2) := by decide +kernel
theorem dX7_init_170 : decode cX7_init 170 = .ok (.putfield 74, 3) := by decide +kernel
theorem dX7_init_173 : decode cX7_init 173 = .ok (.aload_n 0, 1) := by decide +kernel
theorem dX7_init_174 : decode cX7_init 174 = .ok (.bipush 40, 2) := by decide +kernel
theorem dX7_init_176 : decode cX7_init 176 = .ok (.newarray .int, 2) := by decide +kernel
theorem dX7_init_178 : decode cX7_init 178 = .ok (.putfield 77, 3) := by decide +kernel
theorem dX7_init_181 : decode cX7_init 181 = .ok (.aload_n 0, 1) := by decide +kernel
theorem dX7_init_182 : decode cX7_init 182 = .ok (.bipush 40, 2) := by decide +kernel
theorem dX7_init_184 : decode cX7_init 184 = .ok (.newarray .int, 2) := by decide +kernel
theorem dX7_init_186 : decode cX7_init 186 = .ok (.putfield 80, 3) := by decide +kernel
theorem dX7_init_189 : decode cX7_init 189 = .ok (.aload_n 0, 1) := by decide +kernel
theorem dX7_init_190 : decode cX7_init 190 = .ok (.sipush 160, 3) := by decide +kernel
theorem dX7_init_193 : decode cX7_init 193 = .ok (.newarray .int, 2) := by decide +kernel
theorem dX7_init_195 : decode cX7_init 195 = .ok (.putfield 83, 3) := by decide +kernel
theorem dX7_init_198 : decode cX7_init 198 = .ok (.aload_n 0, 1) := by decide +kernel
theorem dX7_init_199 : decode cX7_init 199 = .ok (.iconst 2, 1) := by decide +kernel
theorem dX7_init_200 : decode cX7_init 200 = .ok (.newarray .boolean, 2) := by decide +kernel
theorem dX7_init_202 : decode cX7_init 202 = .ok (.putfield 86, 3) := by decide +kernel
theorem dX7_init_205 : decode cX7_init 205 = .ok (.aload_n 0, 1) := by decide +kernel
theorem dX7_init_206 : decode cX7_init 206 = .ok (.iconst 0, 1) := by decide +kernel
theorem dX7_init_207 : decode cX7_init 207 = .ok (.putfield 90, 3) := by decide +kernel
theorem dX7_init_210 : decode cX7_init 210 = .ok (.return_, 1) := by decide +kernel
theorem dX7_in_0 : decode cX7_in 0 = .ok (.lload_n 0, 1) := by decide +kernel
theorem dX7_in_1 : decode cX7_in 1 = .ok (.lload_n 2, 1) := by decide +kernel
theorem dX7_in_2 : decode cX7_in 2 = .ok (.lcmp, 1) := by decide +kernel
theorem dX7_in_3 : decode cX7_in 3 = .ok (.ifCond .lt 14, 3) := by decide +kernel
theorem dX7_in_6 : decode cX7_in 6 = .ok (.lload_n 0, 1) := by decide +kernel
theorem dX7_in_7 : decode cX7_in 7 = .ok (.lload 4, 2) := by decide +kernel
theorem dX7_in_9 : decode cX7_in 9 = .ok (.lcmp, 1) := by decide +kernel
theorem dX7_in_10 : decode cX7_in 10 = .ok (.ifCond .gt 7, 3) := by decide +kernel
theorem dX7_in_13 : decode cX7_in 13 = .ok (.iconst 1, 1) := by decide +kernel
theorem dX7_in_14 : decode cX7_in 14 = .ok (.goto 4, 3) := by decide +kernel
theorem dX7_in_17 : decode cX7_in 17 = .ok (.iconst 0, 1) := by decide +kernel
theorem dX7_in_18 : decode cX7_in 18 = .ok (.ireturn, 1) := by decide +kernel
theorem dX7_has_0 : decode cX7_has 0 = .ok (.iload_n 0, 1) := by decide +kernel
theorem dX7_has_1 : decode cX7_has 1 = .ok (.iload_n 1, 1) := by decide +kernel
theorem dX7_has_2 : decode cX7_has 2 = .ok (.ishr, 1) := by decide +kernel
theorem dX7_has_3 : decode cX7_has 3 = .ok (.iconst 1, 1) := by decide +kernel
theorem dX7_has_4 : decode cX7_has 4 = .ok (.iand, 1) := by decide +kernel
theorem dX7_has_5 : decode cX7_has 5 = .ok (.iconst 1, 1) := by decide +kernel
theorem dX7_has_6 : decode cX7_has 6 = .ok (.if_icmp .ne 7, 3) := by decide +kernel
theorem dX7_has_9 : decode cX7_has 9 = .ok (.iconst 1, 1) := by decide +kernel
theorem dX7_has_10 : decode cX7_has 10 = .ok (.goto 4, 3) := by decide +kernel
theorem dX7_has_13 : decode cX7_has 13 = .ok (.iconst 0, 1) := by decide +kernel
theorem dX7_has_14 : decode cX7_has 14 = .ok (.ireturn, 1) := by decide +kernel
theorem dX7_size_0 : decode cX7_size 0 = .ok (.iload_n 0, 1) := by decide +kernel
theorem dX7_size_1 : decode cX7_size 1 = .ok (.ifCond .ge 8, 3) := by decide +kernel
theorem dX7_size_4 : decode cX7_size 4 = .ok (.iload_n 0, 1) := by decide +kernel
theorem dX7_size_5 : decode cX7_size 5 = .ok (.ineg, 1) := by decide +kernel
theorem dX7_size_6 : decode cX7_size 6 = .ok (.goto 4, 3) := by decide +kernel
theorem dX7_size_9 : decode cX7_size 9 = .ok (.iload_n 0, 1) := by decide +kernel
theorem dX7_size_10 : decode cX7_size 10 = .ok (.ireturn, 1) := by decide +kernel
set_option maxRecDepth 20000 in
theorem ggX7_isCell_X7_in : GoodIn wsX7_isCell wsX7_in := goodIn_r _ [6] (by decide +kernel) (by decide +kernel)
set_option maxRecDepth 20000 in
theorem gX7_isCell_X7_in : GoodIn wsX7_isCell (va_wsS RX7 93 yX7_in wsX7_in) := goodIn_app (goodIn_of _ (by decide +kernel)) ggX7_isCell_X7_in
theorem dX7_isCell_0 : decode cX7_isCell 0 = .ok (.iload_n 1, 1) := by decide +kernel
theorem dX7_isCell_1 : decode cX7_isCell 1 = .ok (.i2l, 1) := by decide +kernel
theorem dX7_isCell_2 : decode cX7_isCell 2 = .ok (.lconst 0, 1) := by decide +kernel
theorem dX7_isCell_3 : decode cX7_isCell 3 = .ok (.aload_n 0, 1) := by decide +kernel
theorem dX7_isCell_4 : decode cX7_isCell 4 = .ok (.getfield 90, 3) := by decide +kernel
theorem dX7_isCell_7 : decode cX7_isCell 7 = .ok (.iconst 1, 1) := by decide +kernel
theorem dX7_isCell_8 : decode cX7_isCell 8 = .ok (.isub, 1) := by decide +kernel
theorem dX7_isCell_9 : decode cX7_isCell 9 = .ok (.i2l, 1) := by decide +kernel
theorem dX7_isCell_10 : decode cX7_isCell 10 = .ok (.invokestatic 93, 3) := by decide +kernel
theorem dX7_isCell_13 : decode cX7_isCell 13 = .ok (.ifCond .eq 23, 3) := by decide +kernel
theorem dX7_isCell_16 : decode cX7_isCell 16 = .ok (.iload_n 2, 1) := by decide +kernel
theorem dX7_isCell_17 : decode cX7_isCell 17 = .ok (.i2l, 1) := by decide +kernel
theorem dX7_isCell_18 : decode cX7_isCell 18 = .ok (.lconst 0, 1) := by decide +kernel
theorem dX7_isCell_19 : decode cX7_isCell 19 = .ok (.aload_n 0, 1) := by decide +kernel
theorem dX7_isCell_20 : decode cX7_isCell 20 = .ok (.getfield 97, 3) := by decide +kernel
theorem dX7_isCell_23 : decode cX7_isCell 23 = .ok (.iconst 1, 1) := by decide +kernel
theorem dX7_isCell_24 : decode cX7_isCell 24 = .ok (.isub, 1) := by decide +kernel
theorem dX7_isCell_25 : decode cX7_isCell 25 = .ok (.i2l, 1) := by decide +kernel
theorem dX7_isCell_26 : decode cX7_isCell 26 = .ok (.invokestatic 93, 3) := by decide +kernel
theorem dX7_isCell_29 : decode cX7_isCell 29 = .ok (.ifCond .eq 7, 3) := by decide +kernel
theorem dX7_isCell_32 : decode cX7_isCell 32 = .ok (.iconst 1, 1) := by decide +kernel
theorem dX7_isCell_33 : decode cX7_isCell 33 = .ok (.goto 4, 3) := by decide +kernel
theorem dX7_isCell_36 : decode cX7_isCell 36 = .ok (.iconst 0, 1) := by decide +kernel
theorem dX7_isCell_37 : decode cX7_isCell 37 = .ok (.ireturn, 1) := by decide +kernel
set_option maxRecDepth 20000 in
theorem ggX7_isMan_X7_in : GoodIn wsX7_isMan wsX7_in := goodIn_r _ [5] (by decide +kernel) (by decide +kernel)
set_option maxRecDepth 20000 in
theorem gX7_isMan_X7_in : GoodIn wsX7_isMan (va_wsS RX7 93 yX7_in wsX7_in) := goodIn_app (goodIn_of _ (by decide +kernel)) ggX7_isMan_X7_in
theorem dX7_isMan_0 : decode cX7_isMan 0 = .ok (.iload_n 1, 1) := by decide +kernel
theorem dX7_isMan_1 : decode cX7_isMan 1 = .ok (.i2l, 1) := by decide +kernel
theorem dX7_isMan_2 : decode cX7_isMan 2 = .ok (.lconst 0, 1) := by decide +kernel
theorem dX7_isMan_3 : decode cX7_isMan 3 = .ok (.aload_n 0, 1) := by decide +kernel
theorem dX7_isMan_4 : decode cX7_isMan 4 = .ok (.getfield 100, 3) := by decide +kernel
theorem dX7_isMan_7 : decode cX7_isMan 7 = .ok (.iconst 1, 1) := by decide +kernel
theorem dX7_isMan_8 : decode cX7_isMan 8 = .ok (.isub, 1) := by decide +kernel
theorem dX7_isMan_9 : decode cX7_isMan 9 = .ok (.i2l, 1) := by decide +kernel
theorem dX7_isMan_10 : decode cX7_isMan 10 = .ok (.invokestatic 93, 3) := by decide +kernel
theorem dX7_isMan_13 : decode cX7_isMan 13 = .ok (.ireturn, 1) := by decide +kernel
theorem dX7_cells_0 : decode cX7_cells 0 = .ok (.aload_n 0, 1) := by decide +kernel
theorem dX7_cells_1 : decode cX7_cells 1 = .ok (.getfield 90, 3) := by decide +kernel
theorem dX7_cells_4 : decode cX7_cells 4 = .ok (.aload_n 0, 1) := by decide +kernel
theorem dX7_cells_5 : decode cX7_cells 5 = .ok (.getfield 97, 3) := by decide +kernel
theorem dX7_cells_8 : decode cX7_cells 8 = .ok (.imul, 1) := by decide +kernel
theorem dX7_cells_9 : decode cX7_cells 9 = .ok (.ireturn, 1) := by decide +kernel
theorem dX7_begin_0 : decode cX7_begin 0 = .ok (.aload_n 0, 1) := by decide +kernel
theorem dX7_begin_1 : decode cX7_begin 1 = .ok (.getfield 103, 3) := by decide +kernel
theorem dX7_begin_4 : decode cX7_begin 4 = .ok (.istore_n 1, 1) := by decide +kernel
theorem dX7_begin_5 : decode cX7_begin 5 = .ok (.aload_n 0, 1) := by decide +kernel
theorem dX7_begin_6 : decode cX7_begin 6 = .ok (.iconst 0, 1) := by decide +kernel
theorem dX7_begin_7 : decode cX7_begin 7 = .ok (.putfield 103, 3) := by decide +kernel
theorem dX7_begin_10 : decode cX7_begin 10 = .ok (.iconst 0, 1) := by decide +kernel
theorem dX7_begin_11 : decode cX7_begin 11 = .ok (.istore_n 2, 1) := by decide +kernel
theorem dX7_begin_12 : decode cX7_begin 12 = .ok (.iload_n 2, 1) := by decide +kernel
theorem dX7_begin_13 : decode cX7_begin 13 = .ok (.bipush 6, 2) := by decide +kernel
theorem dX7_begin_15 : decode cX7_begin 15 = .ok (.if_icmp .ge 28, 3) := by decide +kernel
theorem dX7_begin_18 : decode cX7_begin 18 = .ok (.aload_n 0, 1) := by decide +kernel
theorem dX7_begin_19 : decode cX7_begin 19 = .ok (.getfield 35, 3) := by decide +kernel
theorem dX7_begin_22 : decode cX7_begin 22 = .ok (.iload_n 2, 1) := by decide +kernel
theorem dX7_begin_23 : decode cX7_begin 23 = .ok (.aload_n 0, 1) := by decide +kernel
theorem dX7_begin_24 : decode cX7_begin 24 = .ok (.getfield 16, 3) := by decide +kernel
theorem dX7_begin_27 : decode cX7_begin 27 = .ok (.iload_n 2, 1) := by decide +kernel
theorem dX7_begin_28 : decode cX7_begin 28 = .ok (.iaload, 1) := by decide +kernel
theorem dX7_begin_29 : decode cX7_begin 29 = .ok (.iastore, 1) := by decide +kernel
theorem dX7_begin_30 : decode cX7_begin 30 = .ok (.aload_n 0, 1) := by decide +kernel
theorem dX7_begin_31 : decode cX7_begin 31 = .ok (.getfield 38, 3) := by decide +kernel
theorem dX7_begin_34 : decode cX7_begin 34 = .ok (.iload_n 2, 1) := by decide +kernel
theorem dX7_begin_35 : decode cX7_begin 35 = .ok (.iconst 0, 1) := by decide +kernel
theorem dX7_begin_36 : decode cX7_begin 36 = .ok (.iastore, 1) := by decide +kernel
theorem dX7_begin_37 : decode cX7_begin 37 = .ok (.iinc 2 1, 3) := by decide +kernel
theorem dX7_begin_40 : decode cX7_begin 40 = .ok (.goto (-28), 3) := by decide +kernel
theorem dX7_begin_43 : decode cX7_begin 43 = .ok (.iconst 0, 1) := by decide +kernel
theorem dX7_begin_44 : decode cX7_begin 44 = .ok (.istore_n 2, 1) := by decide +kernel
theorem dX7_begin_45 : decode cX7_begin 45 = .ok (.iload_n 2, 1) := by decide +kernel
theorem dX7_begin_46 : decode cX7_begin 46 = .ok (.bipush 60, 2) := by decide +kernel
theorem dX7_begin_48 : decode cX7_begin 48 = .ok (.if_icmp .ge 21, 3) := by decide +kernel
theorem dX7_begin_51 : decode cX7_begin 51 = .ok (.aload_n 0, 1) := by decide +kernel
theorem dX7_begin_52 : decode cX7_begin 52 = .ok (.getfield 41, 3) := by decide +kernel
theorem dX7_begin_55 : decode cX7_begin 55 = .ok (.iload_n 2, 1) := by decide +kernel
theorem dX7_begin_56 : decode cX7_begin 56 = .ok (.aload_n 0, 1) := by decide +kernel
theorem dX7_begin_57 : decode cX7_begin 57 = .ok (.getfield 19, 3) := by decide +kernel
theorem dX7_begin_60 : decode cX7_begin 60 = .ok (.iload_n 2, 1) := by decide +kernel
theorem dX7_begin_61 : decode cX7_begin 61 = .ok (.iaload, 1) := by decide +kernel
theorem dX7_begin_62 : decode cX7_begin 62 = .ok (.iastore, 1) := by decide +kernel
theorem dX7_begin_63 : decode cX7_begin 63 = .ok (.iinc 2 1, 3) := by decide +kernel
theorem dX7_begin_66 : decode cX7_begin 66 = .ok (.goto (-21), 3) := by decide +kernel
theorem dX7_begin_69 : decode cX7_begin 69 = .ok (.iload_n 1, 1) := by decide +kernel
theorem dX7_begin_70 : decode cX7_begin 70 = .ok (.ireturn, 1) := by decide +kernel
set_option maxRecDepth 20000 in
theorem ggX7_feed_X7_in : GoodIn wsX7_feed wsX7_in := goodIn_r _ [10] (by decide +kernel) (by decide +kernel)
set_option maxRecDepth 20000 in
theorem gX7_feed_X7_in : GoodIn wsX7_feed (va_wsS RX7 93 yX7_in wsX7_in) := goodIn_app (goodIn_of _ (by decide +kernel)) ggX7_feed_X7_in
theorem dX7_feed_0 : decode cX7_feed 0 = .ok (.iload_n 1, 1) := by decide +kernel
theorem dX7_feed_1 : decode cX7_feed 1 = .ok (.i2l, 1) := by decide +kernel
theorem dX7_feed_2 : decode cX7_feed 2 = .ok (.lconst 1, 1) := by decide +kernel
theorem dX7_feed_3 : decode cX7_feed 3 = .ok (.ldc2_w 106, 3) := by decide +kernel
theorem dX7_feed_6 : decode cX7_feed 6 = .ok (.invokestatic 93, 3) := by decide +kernel
theorem dX7_feed_9 : decode cX7_feed 9 = .ok (.ifCond .ne 6, 3) := by decide +kernel
theorem dX7_feed_12 : decode cX7_feed 12 = .ok (.ldc 108, 2) := by decide +kernel
theorem dX7_feed_14 : decode cX7_feed 14 = .ok (.ireturn, 1) := by decide +kernel
theorem dX7_feed_15 : decode cX7_feed 15 = .ok (.aload_n 0, 1) := by decide +kernel
theorem dX7_feed_16 : decode cX7_feed 16 = .ok (.getfield 109, 3) := by decide +kernel
theorem dX7_feed_19 : decode cX7_feed 19 = .ok (.iload_n 1, 1) := by decide +kernel
theorem dX7_feed_20 : decode cX7_feed 20 = .ok (.iadd, 1) := by decide +kernel
theorem dX7_feed_21 : decode cX7_feed 21 = .ok (.sipush 500, 3) := by decide +kernel
theorem dX7_feed_24 : decode cX7_feed 24 = .ok (.if_icmp .le 6, 3) := by decide +kernel
theorem dX7_feed_27 : decode cX7_feed 27 = .ok (.ldc 112, 2) := by decide +kernel
theorem dX7_feed_29 : decode cX7_feed 29 = .ok (.ireturn, 1) := by decide +kernel
theorem dX7_feed_30 : decode cX7_feed 30 = .ok (.iload_n 1, 1) := by decide +kernel
theorem dX7_feed_31 : decode cX7_feed 31 = .ok (.iconst 1, 1) := by decide +kernel
theorem dX7_feed_32 : decode cX7_feed 32 = .ok (.isub, 1) := by decide +kernel
theorem dX7_feed_33 : decode cX7_feed 33 = .ok (.istore 4, 2) := by decide +kernel
theorem dX7_feed_35 : decode cX7_feed 35 = .ok (.iload 4, 2) := by decide +kernel
theorem dX7_feed_37 : decode cX7_feed 37 = .ok (.ifCond .lt 40, 3) := by decide +kernel
theorem dX7_feed_40 : decode cX7_feed 40 = .ok (.aload_n 0, 1) := by decide +kernel
theorem dX7_feed_41 : decode cX7_feed 41 = .ok (.getfield 44, 3) := by decide +kernel
theorem dX7_feed_44 : decode cX7_feed 44 = .ok (.aload_n 0, 1) := by decide +kernel
theorem dX7_feed_45 : decode cX7_feed 45 = .ok (.getfield 109, 3) := by decide +kernel
theorem dX7_feed_48 : decode cX7_feed 48 = .ok (.lload_n 2, 1) := by decide +kernel
theorem dX7_feed_49 : decode cX7_feed 49 = .ok (.bipush 8, 2) := by decide +kernel
theorem dX7_feed_51 : decode cX7_feed 51 = .ok (.iload 4, 2) := by decide +kernel
theorem dX7_feed_53 : decode cX7_feed 53 = .ok (.imul, 1) := by decide +kernel
theorem dX7_feed_54 : decode cX7_feed 54 = .ok (.lshr, 1) := by decide +kernel
theorem dX7_feed_55 : decode cX7_feed 55 = .ok (.ldc2_w 113, 3) := by decide +kernel
theorem dX7_feed_58 : decode cX7_feed 58 = .ok (.land, 1) := by decide +kernel
theorem dX7_feed_59 : decode cX7_feed 59 = .ok (.l2i, 1) := by decide +kernel
theorem dX7_feed_60 : decode cX7_feed 60 = .ok (.iastore, 1) := by decide +kernel
theorem dX7_feed_61 : decode cX7_feed 61 = .ok (.aload_n 0, 1) := by decide +kernel
theorem dX7_feed_62 : decode cX7_feed 62 = .ok (.dup, 1) := by decide +kernel
theorem dX7_feed_63 : decode cX7_feed 63 = .ok (.getfield 109, 3) := by decide +kernel
theorem dX7_feed_66 : decode cX7_feed 66 = .ok (.iconst 1, 1) := by decide +kernel
theorem dX7_feed_67 : decode cX7_feed 67 = .ok (.iadd, 1) := by decide +kernel
theorem dX7_feed_68 : decode cX7_feed 68 = .ok (.putfield 109, 3) := by decide +kernel
theorem dX7_feed_71 : decode cX7_feed 71 = .ok (.iinc 4 (-1), 3) := by decide +kernel
theorem dX7_feed_74 : decode cX7_feed 74 = .ok (.goto (-39), 3) := by decide +kernel
theorem dX7_feed_77 : decode cX7_feed 77 = .ok (.aload_n 0, 1) := by decide +kernel
theorem dX7_feed_78 : decode cX7_feed 78 = .ok (.getfield 109, 3) := by decide +kernel
theorem dX7_feed_81 : decode cX7_feed 81 = .ok (.ireturn, 1) := by decide +kernel
theorem dX7_here_0 : decode cX7_here 0 = .ok (.aload_n 0, 1) := by decide +kernel
theorem dX7_here_1 : decode cX7_here 1 = .ok (.getfield 115, 3) := by decide +kernel
theorem dX7_here_4 : decode cX7_here 4 = .ok (.aload_n 0, 1) := by decide +kernel
theorem dX7_here_5 : decode cX7_here 5 = .ok (.getfield 109, 3) := by decide +kernel
theorem dX7_here_8 : decode cX7_here 8 = .ok (.if_icmp .ge 30, 3) := by decide +kernel
theorem dX7_here_11 : decode cX7_here 11 = .ok (.aload_n 0, 1) := by decide +kernel
theorem dX7_here_12 : decode cX7_here 12 = .ok (.getfield 44, 3) := by decide +kernel
theorem dX7_here_15 : decode cX7_here 15 = .ok (.aload_n 0, 1) := by decide +kernel
theorem dX7_here_16 : decode cX7_here 16 = .ok (.getfield 115, 3) := by decide +kernel
theorem dX7_here_19 : decode cX7_here 19 = .ok (.iaload, 1) := by decide +kernel
theorem dX7_here_20 : decode cX7_here 20 = .ok (.bipush 32, 2) := by decide +kernel
theorem dX7_here_22 : decode cX7_here 22 = .ok (.if_icmp .ne 16, 3) := by decide +kernel
theorem dX7_here_25 : decode cX7_here 25 = .ok (.aload_n 0, 1) := by decide +kernel
theorem dX7_here_26 : decode cX7_here 26 = .ok (.dup, 1) := by decide +kernel
theorem dX7_here_27 : decode cX7_here 27 = .ok (.getfield 115, 3) := by decide +kernel
theorem dX7_here_30 : decode cX7_here 30 = .ok (.iconst 1, 1) := by decide +kernel
theorem dX7_here_31 : decode cX7_here 31 = .ok (.iadd, 1) := by decide +kernel
theorem dX7_here_32 : decode cX7_here 32 = .ok (.putfield 115, 3) := by decide +kernel
theorem dX7_here_35 : decode cX7_here 35 = .ok (.goto (-35), 3) := by decide +kernel
theorem dX7_here_38 : decode cX7_here 38 = .ok (.aload_n 0, 1) := by decide +kernel
theorem dX7_here_39 : decode cX7_here 39 = .ok (.getfield 115, 3) := by decide +kernel
theorem dX7_here_42 : decode cX7_here 42 = .ok (.aload_n 0, 1) := by decide +kernel
theorem dX7_here_43 : decode cX7_here 43 = .ok (.getfield 109, 3) := by decide +kernel
theorem dX7_here_46 : decode cX7_here 46 = .ok (.if_icmp .ge 15, 3) := by decide +kernel
theorem dX7_here_49 : decode cX7_here 49 = .ok (.aload_n 0, 1) := by decide +kernel
theorem dX7_here_50 : decode cX7_here 50 = .ok (.getfield 44, 3) := by decide +kernel
theorem dX7_here_53 : decode cX7_here 53 = .ok (.aload_n 0, 1) := by decide +kernel
theorem dX7_here_54 : decode cX7_here 54 = .ok (.getfield 115, 3) := by decide +kernel
theorem dX7_here_57 : decode cX7_here 57 = .ok (.iaload, 1) := by decide +kernel
theorem dX7_here_58 : decode cX7_here 58 = .ok (.goto 4, 3) := by decide +kernel
theorem dX7_here_61 : decode cX7_here 61 = .ok (.iconst (-1), 1) := by decide +kernel
theorem dX7_here_62 : decode cX7_here 62 = .ok (.ireturn, 1) := by decide +kernel
theorem dX7_fails_0 : decode cX7_fails 0 = .ok (.aload_n 0, 1) := by decide +kernel
theorem dX7_fails_1 : decode cX7_fails 1 = .ok (.iload_n 2, 1) := by decide +kernel
theorem dX7_fails_2 : decode cX7_fails 2 = .ok (.putfield 47, 3) := by decide +kernel
theorem dX7_fails_5 : decode cX7_fails 5 = .ok (.iload_n 1, 1) := by decide +kernel
theorem dX7_fails_6 : decode cX7_fails 6 = .ok (.ireturn, 1) := by decide +kernel
set_option maxRecDepth 20000 in
theorem ggX7_readWord_X7_here : GoodIn wsX7_readWord wsX7_here := goodIn_r _ [16, 2, 4, 5, 20, 21, 22, 23, 24, 25, 26, 27, 28, 29, 30, 31, 32, 33, 34, 35, 36, 37, 38, 39, 40, 41, 42, 43, 44, 45, 46, 47, 48, 49, 50, 51, 52, 53, 54, 55, 56, 57, 58, 59, 60, 61, 62, 63, 64, 65, 66, 67] (by decide +kernel) (by decide +kernel)
set_option maxRecDepth 20000 in
theorem gX7_readWord_X7_here : GoodIn wsX7_readWord (wsV RX7 118 RX7 yX7_here wsX7_here) := goodIn_app (goodIn_of _ (by decide +kernel)) ggX7_readWord_X7_here
set_option maxRecDepth 20000 in
theorem ggX7_readWord_X7_in : GoodIn wsX7_readWord wsX7_in := goodIn_r _ [19] (by decide +kernel) (by decide +kernel)
set_option maxRecDepth 20000 in
theorem gX7_readWord_X7_in : GoodIn wsX7_readWord (va_wsS RX7 93 yX7_in wsX7_in) := goodIn_app (goodIn_of _ (by decide +kernel)) ggX7_readWord_X7_in
theorem dX7_readWord_0 : decode cX7_readWord 0 = .ok (.aload_n 0, 1) := by decide +kernel
theorem dX7_readWord_1 : decode cX7_readWord 1 = .ok (.invokevirtual 118, 3) := by decide +kernel
theorem dX7_readWord_4 : decode cX7_readWord 4 = .ok (.istore_n 1, 1) := by decide +kernel
theorem dX7_readWord_5 : decode cX7_readWord 5 = .ok (.aload_n 0, 1) := by decide +kernel
theorem dX7_readWord_6 : decode cX7_readWord 6 = .ok (.lconst 0, 1) := by decide +kernel
theorem dX7_readWord_7 : decode cX7_readWord 7 = .ok (.putfield 122, 3) := by decide +kernel
theorem dX7_readWord_10 : decode cX7_readWord 10 = .ok (.aload_n 0, 1) := by decide +kernel
theorem dX7_readWord_11 : decode cX7_readWord 11 = .ok (.aload_n 0, 1) := by decide +kernel
theorem dX7_readWord_12 : decode cX7_readWord 12 = .ok (.getfield 115, 3) := by decide +kernel
theorem dX7_readWord_15 : decode cX7_readWord 15 = .ok (.putfield 126, 3) := by decide +kernel
theorem dX7_readWord_18 : decode cX7_readWord 18 = .ok (.aload_n 0, 1) := by decide +kernel
theorem dX7_readWord_19 : decode cX7_readWord 19 = .ok (.getfield 126, 3) := by decide +kernel
theorem dX7_readWord_22 : decode cX7_readWord 22 = .ok (.aload_n 0, 1) := by decide +kernel
theorem dX7_readWord_23 : decode cX7_readWord 23 = .ok (.getfield 109, 3) := by decide +kernel
theorem dX7_readWord_26 : decode cX7_readWord 26 = .ok (.if_icmp .ge 82, 3) := by decide +kernel
theorem dX7_readWord_29 : decode cX7_readWord 29 = .ok (.aload_n 0, 1) := by decide +kernel
theorem dX7_readWord_30 : decode cX7_readWord 30 = .ok (.getfield 44, 3) := by decide +kernel
theorem dX7_readWord_33 : decode cX7_readWord 33 = .ok (.aload_n 0, 1) := by decide +kernel
theorem dX7_readWord_34 : decode cX7_readWord 34 = .ok (.getfield 126, 3) := by decide +kernel
theorem dX7_readWord_37 : decode cX7_readWord 37 = .ok (.iaload, 1) := by decide +kernel
theorem dX7_readWord_38 : decode cX7_readWord 38 = .ok (.i2l, 1) := by decide +kernel
theorem dX7_readWord_39 : decode cX7_readWord 39 = .ok (.ldc2_w 129, 3) := by decide +kernel
theorem dX7_readWord_42 : decode cX7_readWord 42 = .ok (.ldc2_w 131, 3) := by decide +kernel
theorem dX7_readWord_45 : decode cX7_readWord 45 = .ok (.invokestatic 93, 3) := by decide +kernel
theorem dX7_readWord_48 : decode cX7_readWord 48 = .ok (.ifCond .eq 60, 3) := by decide +kernel
theorem dX7_readWord_51 : decode cX7_readWord 51 = .ok (.aload_n 0, 1) := by decide +kernel
theorem dX7_readWord_52 : decode cX7_readWord 52 = .ok (.aload_n 0, 1) := by decide +kernel
theorem dX7_readWord_53 : decode cX7_readWord 53 = .ok (.getfield 122, 3) := by decide +kernel
theorem dX7_readWord_56 : decode cX7_readWord 56 = .ok (.ldc2_w 133, 3) := by decide +kernel
theorem dX7_readWord_59 : decode cX7_readWord 59 = .ok (.lcmp, 1) := by decide +kernel
theorem dX7_readWord_60 : decode cX7_readWord 60 = .ok (.ifCond .le 9, 3) := by decide +kernel
theorem dX7_readWord_63 : decode cX7_readWord 63 = .ok (.ldc2_w 135, 3) := by decide +kernel
theorem dX7_readWord_66 : decode cX7_readWord 66 = .ok (.goto 26, 3) := by decide +kernel
theorem dX7_readWord_69 : decode cX7_readWord 69 = .ok (.ldc2_w 137, 3) := by decide +kernel
theorem dX7_readWord_72 : decode cX7_readWord 72 = .ok (.aload_n 0, 1) := by decide +kernel
theorem dX7_readWord_73 : decode cX7_readWord 73 = .ok (.getfield 122, 3) := by decide +kernel
theorem dX7_readWord_76 : decode cX7_readWord 76 = .ok (.lmul, 1) := by decide +kernel
theorem dX7_readWord_77 : decode cX7_readWord 77 = .ok (.aload_n 0, 1) := by decide +kernel
theorem dX7_readWord_78 : decode cX7_readWord 78 = .ok (.getfield 44, 3) := by decide +kernel
theorem dX7_readWord_81 : decode cX7_readWord 81 = .ok (.aload_n 0, 1) := by decide +kernel
theorem dX7_readWord_82 : decode cX7_readWord 82 = .ok (.getfield 126, 3) := by decide +kernel
theorem dX7_readWord_85 : decode cX7_readWord 85 = .ok (.iaload, 1) := by decide +kernel
theorem dX7_readWord_86 : decode cX7_readWord 86 = .ok (.i2l, 1) := by decide +kernel
theorem dX7_readWord_87 : decode cX7_readWord 87 = .ok (.ladd, 1) := by decide +kernel
theorem dX7_readWord_88 : decode cX7_readWord 88 = .ok (.ldc2_w 139, 3) := by decide +kernel
theorem dX7_readWord_91 : decode cX7_readWord 91 = .ok (.lsub, 1) := by decide +kernel
theorem dX7_readWord_92 : decode cX7_readWord 92 = .ok (.putfield 122, 3) := by decide +kernel
theorem dX7_readWord_95 : decode cX7_readWord 95 = .ok (.aload_n 0, 1) := by decide +kernel
theorem dX7_readWord_96 : decode cX7_readWord 96 = .ok (.dup, 1) := by decide +kernel
theorem dX7_readWord_97 : decode cX7_readWord 97 = .ok (.getfield 126, 3) := by decide +kernel
theorem dX7_readWord_100 : decode cX7_readWord 100 = .ok (.iconst 1, 1) := by decide +kernel
theorem dX7_readWord_101 : decode cX7_readWord 101 = .ok (.iadd, 1) := by decide +kernel
theorem dX7_readWord_102 : decode cX7_readWord 102 = .ok (.putfield 126, 3) := by decide +kernel
theorem dX7_readWord_105 : decode cX7_readWord 105 = .ok (.goto (-87), 3) := by decide +kernel
theorem dX7_readWord_108 : decode cX7_readWord 108 = .ok (.return_, 1) := by decide +kernel
theorem dX7_code_0 : decode cX7_code 0 = .ok (.ldc2_w 137, 3) := by decide +kernel
theorem dX7_code_3 : decode cX7_code 3 = .ok (.ldc2_w 137, 3) := by decide +kernel
theorem dX7_code_6 : decode cX7_code 6 = .ok (.ldc2_w 137, 3) := by decide +kernel
theorem dX7_code_9 : decode cX7_code 9 = .ok (.iload_n 0, 1) := by decide +kernel
theorem dX7_code_10 : decode cX7_code 10 = .ok (.i2l, 1) := by decide +kernel
theorem dX7_code_11 : decode cX7_code 11 = .ok (.ldc2_w 139, 3) := by decide +kernel
theorem dX7_code_14 : decode cX7_code 14 = .ok (.lsub, 1) := by decide +kernel
theorem dX7_code_15 : decode cX7_code 15 = .ok (.lmul, 1) := by decide +kernel
theorem dX7_code_16 : decode cX7_code 16 = .ok (.iload_n 1, 1) := by decide +kernel
theorem dX7_code_17 : decode cX7_code 17 = .ok (.i2l, 1) := by decide +kernel
theorem dX7_code_18 : decode cX7_code 18 = .ok (.ladd, 1) := by decide +kernel
theorem dX7_code_19 : decode cX7_code 19 = .ok (.ldc2_w 139, 3) := by decide +kernel
theorem dX7_code_22 : decode cX7_code 22 = .ok (.lsub, 1) := by decide +kernel
theorem dX7_code_23 : decode cX7_code 23 = .ok (.lmul, 1) := by decide +kernel
theorem dX7_code_24 : decode cX7_code 24 = .ok (.iload_n 2, 1) := by decide +kernel
theorem dX7_code_25 : decode cX7_code 25 = .ok (.i2l, 1) := by decide +kernel
theorem dX7_code_26 : decode cX7_code 26 = .ok (.ladd, 1) := by decide +kernel
theorem dX7_code_27 : decode cX7_code 27 = .ok (.ldc2_w 139, 3) := by decide +kernel
theorem dX7_code_30 : decode cX7_code 30 = .ok (.lsub, 1) := by decide +kernel
theorem dX7_code_31 : decode cX7_code 31 = .ok (.lmul, 1) := by decide +kernel
theorem dX7_code_32 : decode cX7_code 32 = .ok (.iload_n 3, 1) := by decide +kernel
theorem dX7_code_33 : decode cX7_code 33 = .ok (.i2l, 1) := by decide +kernel
theorem dX7_code_34 : decode cX7_code 34 = .ok (.ladd, 1) := by decide +kernel
theorem dX7_code_35 : decode cX7_code 35 = .ok (.ldc2_w 139, 3) := by decide +kernel
theorem dX7_code_38 : decode cX7_code 38 = .ok (.lsub, 1) := by decide +kernel
theorem dX7_code_39 : decode cX7_code 39 = .ok (.lreturn, 1) := by decide +kernel
theorem dX7_longer_0 : decode cX7_longer 0 = .ok (.ldc2_w 137, 3) := by decide +kernel
theorem dX7_longer_3 : decode cX7_longer 3 = .ok (.lload_n 0, 1) := by decide +kernel
theorem dX7_longer_4 : decode cX7_longer 4 = .ok (.lmul, 1) := by decide +kernel
theorem dX7_longer_5 : decode cX7_longer 5 = .ok (.iload_n 2, 1) := by decide +kernel
theorem dX7_longer_6 : decode cX7_longer 6 = .ok (.i2l, 1) := by decide +kernel
theorem dX7_longer_7 : decode cX7_longer 7 = .ok (.ladd, 1) := by decide +kernel
theorem dX7_longer_8 : decode cX7_longer 8 = .ok (.ldc2_w 139, 3) := by decide +kernel
theorem dX7_longer_11 : decode cX7_longer 11 = .ok (.lsub, 1) := by decide +kernel
theorem dX7_longer_12 : decode cX7_longer 12 = .ok (.lreturn, 1) := by decide +kernel
set_option maxRecDepth 20000 in
theorem ggX7_takeNumber_X7_here : GoodIn wsX7_takeNumber wsX7_here := goodIn_r _ [12, 3, 6, 7, 21, 22, 23, 24, 25, 26, 27, 28, 29, 30, 31, 32, 33, 34, 35, 36, 37, 38, 39, 40, 41, 42, 43, 44, 45, 46, 47, 48, 49, 50, 51, 52, 53, 54, 55, 56, 57, 58, 59, 60, 61, 62, 63, 64, 65, 66, 67, 68] (by decide +kernel) (by decide +kernel)
set_option maxRecDepth 20000 in
theorem gX7_takeNumber_X7_here : GoodIn wsX7_takeNumber (wsV RX7 118 RX7 yX7_here wsX7_here) := goodIn_app (goodIn_of _ (by decide +kernel)) ggX7_takeNumber_X7_here
set_option maxRecDepth 20000 in
theorem ggX7_takeNumber_X7_in : GoodIn wsX7_takeNumber wsX7_in := goodIn_r _ [15] (by decide +kernel) (by decide +kernel)
set_option maxRecDepth 20000 in
theorem gX7_takeNumber_X7_in : GoodIn wsX7_takeNumber (va_wsS RX7 93 yX7_in wsX7_in) := goodIn_app (goodIn_of _ (by decide +kernel)) ggX7_takeNumber_X7_in
set_option maxRecDepth 20000 in
theorem ggX7_takeNumber_X7_fails : GoodIn wsX7_takeNumber wsX7_fails := goodIn_r _ [19, 20, 21, 22, 23, 24, 25, 26, 27, 28, 29, 30, 31, 32, 33, 34, 35, 36, 37, 38, 39, 40, 41, 42, 43, 44, 45, 46, 47, 48, 49, 50, 51, 52, 53, 54, 55, 56, 57, 58, 59, 60, 61, 62, 63, 64, 65, 66, 67, 68] (by decide +kernel) (by decide +kernel)
set_option maxRecDepth 20000 in
theorem gX7_takeNumber_X7_fails : GoodIn wsX7_takeNumber (wsV RX7 145 RX7 yX7_fails wsX7_fails) := goodIn_app (goodIn_of _ (by decide +kernel)) ggX7_takeNumber_X7_fails
theorem dX7_takeNumber_0 : decode cX7_takeNumber 0 = .ok (.aload_n 0, 1) := by decide +kernel
theorem dX7_takeNumber_1 : decode cX7_takeNumber 1 = .ok (.invokevirtual 118, 3) := by decide +kernel
theorem dX7_takeNumber_4 : decode cX7_takeNumber 4 = .ok (.istore_n 3, 1) := by decide +kernel
theorem dX7_takeNumber_5 : decode cX7_takeNumber 5 = .ok (.iload_n 3, 1) := by decide +kernel
theorem dX7_takeNumber_6 : decode cX7_takeNumber 6 = .ok (.i2l, 1) := by decide +kernel
theorem dX7_takeNumber_7 : decode cX7_takeNumber 7 = .ok (.ldc2_w 141, 3) := by decide +kernel
theorem dX7_takeNumber_10 : decode cX7_takeNumber 10 = .ok (.ldc2_w 143, 3) := by decide +kernel
theorem dX7_takeNumber_13 : decode cX7_takeNumber 13 = .ok (.invokestatic 93, 3) := by decide +kernel
theorem dX7_takeNumber_16 : decode cX7_takeNumber 16 = .ok (.ifCond .ne 13, 3) := by decide +kernel
theorem dX7_takeNumber_19 : decode cX7_takeNumber 19 = .ok (.aload_n 0, 1) := by decide +kernel
theorem dX7_takeNumber_20 : decode cX7_takeNumber 20 = .ok (.iconst 1, 1) := by decide +kernel
theorem dX7_takeNumber_21 : decode cX7_takeNumber 21 = .ok (.aload_n 0, 1) := by decide +kernel
theorem dX7_takeNumber_22 : decode cX7_takeNumber 22 = .ok (.getfield 115, 3) := by decide +kernel
theorem dX7_takeNumber_25 : decode cX7_takeNumber 25 = .ok (.invokevirtual 145, 3) := by decide +kernel
theorem dX7_takeNumber_28 : decode cX7_takeNumber 28 = .ok (.ireturn, 1) := by decide +kernel
theorem dX7_takeNumber_29 : decode cX7_takeNumber 29 = .ok (.aload_n 0, 1) := by decide +kernel
theorem dX7_takeNumber_30 : decode cX7_takeNumber 30 = .ok (.aload_n 0, 1) := by decide +kernel
theorem dX7_takeNumber_31 : decode cX7_takeNumber 31 = .ok (.getfield 115, 3) := by decide +kernel
theorem dX7_takeNumber_34 : decode cX7_takeNumber 34 = .ok (.putfield 149, 3) := by decide +kernel
theorem dX7_takeNumber_37 : decode cX7_takeNumber 37 = .ok (.aload_n 0, 1) := by decide +kernel
theorem dX7_takeNumber_38 : decode cX7_takeNumber 38 = .ok (.iconst 0, 1) := by decide +kernel
theorem dX7_takeNumber_39 : decode cX7_takeNumber 39 = .ok (.putfield 152, 3) := by decide +kernel
theorem dX7_takeNumber_42 : decode cX7_takeNumber 42 = .ok (.aload_n 0, 1) := by decide +kernel
theorem dX7_takeNumber_43 : decode cX7_takeNumber 43 = .ok (.getfield 115, 3) := by decide +kernel
theorem dX7_takeNumber_46 : decode cX7_takeNumber 46 = .ok (.aload_n 0, 1) := by decide +kernel
theorem dX7_takeNumber_47 : decode cX7_takeNumber 47 = .ok (.getfield 109, 3) := by decide +kernel
theorem dX7_takeNumber_50 : decode cX7_takeNumber 50 = .ok (.if_icmp .ge 79, 3) := by decide +kernel
theorem dX7_takeNumber_53 : decode cX7_takeNumber 53 = .ok (.aload_n 0, 1) := by decide +kernel
theorem dX7_takeNumber_54 : decode cX7_takeNumber 54 = .ok (.getfield 44, 3) := by decide +kernel
theorem dX7_takeNumber_57 : decode cX7_takeNumber 57 = .ok (.aload_n 0, 1) := by decide +kernel
theorem dX7_takeNumber_58 : decode cX7_takeNumber 58 = .ok (.getfield 115, 3) := by decide +kernel
theorem dX7_takeNumber_61 : decode cX7_takeNumber 61 = .ok (.iaload, 1) := by decide +kernel
theorem dX7_takeNumber_62 : decode cX7_takeNumber 62 = .ok (.i2l, 1) := by decide +kernel
theorem dX7_takeNumber_63 : decode cX7_takeNumber 63 = .ok (.ldc2_w 141, 3) := by decide +kernel
theorem dX7_takeNumber_66 : decode cX7_takeNumber 66 = .ok (.ldc2_w 143, 3) := by decide +kernel
theorem dX7_takeNumber_69 : decode cX7_takeNumber 69 = .ok (.invokestatic 93, 3) := by decide +kernel
theorem dX7_takeNumber_72 : decode cX7_takeNumber 72 = .ok (.ifCond .eq 57, 3) := by decide +kernel
theorem dX7_takeNumber_75 : decode cX7_takeNumber 75 = .ok (.aload_n 0, 1) := by decide +kernel
theorem dX7_takeNumber_76 : decode cX7_takeNumber 76 = .ok (.aload_n 0, 1) := by decide +kernel
theorem dX7_takeNumber_77 : decode cX7_takeNumber 77 = .ok (.getfield 152, 3) := by decide +kernel
theorem dX7_takeNumber_80 : decode cX7_takeNumber 80 = .ok (.sipush 10000, 3) := by decide +kernel
theorem dX7_takeNumber_83 : decode cX7_takeNumber 83 = .ok (.if_icmp .le 10, 3) := by decide +kernel
theorem dX7_takeNumber_86 : decode cX7_takeNumber 86 = .ok (.aload_n 0, 1) := by decide +kernel
theorem dX7_takeNumber_87 : decode cX7_takeNumber 87 = .ok (.getfield 152, 3) := by decide +kernel
theorem dX7_takeNumber_90 : decode cX7_takeNumber 90 = .ok (.goto 23, 3) := by decide +kernel
theorem dX7_takeNumber_93 : decode cX7_takeNumber 93 = .ok (.bipush 10, 2) := by decide +kernel
theorem dX7_takeNumber_95 : decode cX7_takeNumber 95 = .ok (.aload_n 0, 1) := by decide +kernel
theorem dX7_takeNumber_96 : decode cX7_takeNumber 96 = .ok (.getfield 152, 3) := by decide +kernel
theorem dX7_takeNumber_99 : decode cX7_takeNumber 99 = .ok (.imul, 1) := by decide +kernel
theorem dX7_takeNumber_100 : decode cX7_takeNumber 100 = .ok (.aload_n 0, 1) := by decide +kernel
theorem dX7_takeNumber_101 : decode cX7_takeNumber 101 = .ok (.getfield 44, 3) := by decide +kernel
theorem dX7_takeNumber_104 : decode cX7_takeNumber 104 = .ok (.aload_n 0, 1) := by decide +kernel
theorem dX7_takeNumber_105 : decode cX7_takeNumber 105 = .ok (.getfield 115, 3) := by decide +kernel
theorem dX7_takeNumber_108 : decode cX7_takeNumber 108 = .ok (.iaload, 1) := by decide +kernel
theorem dX7_takeNumber_109 : decode cX7_takeNumber 109 = .ok (.iadd, 1) := by decide +kernel
theorem dX7_takeNumber_110 : decode cX7_takeNumber 110 = .ok (.bipush 48, 2) := by decide +kernel
theorem dX7_takeNumber_112 : decode cX7_takeNumber 112 = .ok (.isub, 1) := by decide +kernel
theorem dX7_takeNumber_113 : decode cX7_takeNumber 113 = .ok (.putfield 152, 3) := by decide +kernel
theorem dX7_takeNumber_116 : decode cX7_takeNumber 116 = .ok (.aload_n 0, 1) := by decide +kernel
theorem dX7_takeNumber_117 : decode cX7_takeNumber 117 = .ok (.dup, 1) := by decide +kernel
theorem dX7_takeNumber_118 : decode cX7_takeNumber 118 = .ok (.getfield 115, 3) := by decide +kernel
theorem dX7_takeNumber_121 : decode cX7_takeNumber 121 = .ok (.iconst 1, 1) := by decide +kernel
theorem dX7_takeNumber_122 : decode cX7_takeNumber 122 = .ok (.iadd, 1) := by decide +kernel
theorem dX7_takeNumber_123 : decode cX7_takeNumber 123 = .ok (.putfield 115, 3) := by decide +kernel
theorem dX7_takeNumber_126 : decode cX7_takeNumber 126 = .ok (.goto (-84), 3) := by decide +kernel
theorem dX7_takeNumber_129 : decode cX7_takeNumber 129 = .ok (.aload_n 0, 1) := by decide +kernel
theorem dX7_takeNumber_130 : decode cX7_takeNumber 130 = .ok (.getfield 115, 3) := by decide +kernel
theorem dX7_takeNumber_133 : decode cX7_takeNumber 133 = .ok (.aload_n 0, 1) := by decide +kernel
theorem dX7_takeNumber_134 : decode cX7_takeNumber 134 = .ok (.getfield 149, 3) := by decide +kernel
theorem dX7_takeNumber_137 : decode cX7_takeNumber 137 = .ok (.isub, 1) := by decide +kernel
theorem dX7_takeNumber_138 : decode cX7_takeNumber 138 = .ok (.iconst 3, 1) := by decide +kernel
theorem dX7_takeNumber_139 : decode cX7_takeNumber 139 = .ok (.if_icmp .gt 18, 3) := by decide +kernel
theorem dX7_takeNumber_142 : decode cX7_takeNumber 142 = .ok (.aload_n 0, 1) := by decide +kernel
theorem dX7_takeNumber_143 : decode cX7_takeNumber 143 = .ok (.getfield 152, 3) := by decide +kernel
theorem dX7_takeNumber_146 : decode cX7_takeNumber 146 = .ok (.i2l, 1) := by decide +kernel
theorem dX7_takeNumber_147 : decode cX7_takeNumber 147 = .ok (.iload_n 1, 1) := by decide +kernel
theorem dX7_takeNumber_148 : decode cX7_takeNumber 148 = .ok (.i2l, 1) := by decide +kernel
theorem dX7_takeNumber_149 : decode cX7_takeNumber 149 = .ok (.iload_n 2, 1) := by decide +kernel
theorem dX7_takeNumber_150 : decode cX7_takeNumber 150 = .ok (.i2l, 1) := by decide +kernel
theorem dX7_takeNumber_151 : decode cX7_takeNumber 151 = .ok (.invokestatic 93, 3) := by decide +kernel
theorem dX7_takeNumber_154 : decode cX7_takeNumber 154 = .ok (.ifCond .ne 15, 3) := by decide +kernel
theorem dX7_takeNumber_157 : decode cX7_takeNumber 157 = .ok (.aload_n 0, 1) := by decide +kernel
theorem dX7_takeNumber_158 : decode cX7_takeNumber 158 = .ok (.iconst 2, 1) := by decide +kernel
theorem dX7_takeNumber_159 : decode cX7_takeNumber 159 = .ok (.aload_n 0, 1) := by decide +kernel
theorem dX7_takeNumber_160 : decode cX7_takeNumber 160 = .ok (.getfield 149, 3) := by decide +kernel
theorem dX7_takeNumber_163 : decode cX7_takeNumber 163 = .ok (.invokevirtual 145, 3) := by decide +kernel
theorem dX7_takeNumber_166 : decode cX7_takeNumber 166 = .ok (.goto 4, 3) := by decide +kernel
theorem dX7_takeNumber_169 : decode cX7_takeNumber 169 = .ok (.iconst 0, 1) := by decide +kernel
theorem dX7_takeNumber_170 : decode cX7_takeNumber 170 = .ok (.ireturn, 1) := by decide +kernel
set_option maxRecDepth 20000 in
theorem ggX7_into_X7_takeNumber : GoodIn wsX7_into wsX7_takeNumber := goodIn_r _ [6, 7, 8, 9, 10, 1, 11, 12, 13, 14, 15, 5, 16, 17, 18, 19, 20, 21, 22, 23, 24, 25, 26, 27, 28, 29, 30, 31, 32, 33, 34, 35, 36, 37, 38, 39, 40, 41, 42, 43, 44, 45, 46, 47, 48, 49, 50, 51, 52, 53, 54, 55, 56, 57, 58, 59, 60, 61, 62, 63, 64, 65, 66, 67, 68, 69, 70, 71, 72] (by decide +kernel) (by decide +kernel)
set_option maxRecDepth 20000 in
theorem gX7_into_X7_takeNumber : GoodIn wsX7_into (wsV RX7 155 RX7 yX7_takeNumber wsX7_takeNumber) := goodIn_app (goodIn_of _ (by decide +kernel)) ggX7_into_X7_takeNumber
theorem dX7_into_0 : decode cX7_into 0 = .ok (.aload_n 0, 1) := by decide +kernel
theorem dX7_into_1 : decode cX7_into 1 = .ok (.iload_n 3, 1) := by decide +kernel
theorem dX7_into_2 : decode cX7_into 2 = .ok (.iload 4, 2) := by decide +kernel
theorem dX7_into_4 : decode cX7_into 4 = .ok (.invokevirtual 155, 3) := by decide +kernel
theorem dX7_into_7 : decode cX7_into 7 = .ok (.istore 5, 2) := by decide +kernel
theorem dX7_into_9 : decode cX7_into 9 = .ok (.aload_n 1, 1) := by decide +kernel
theorem dX7_into_10 : decode cX7_into 10 = .ok (.iload_n 2, 1) := by decide +kernel
theorem dX7_into_11 : decode cX7_into 11 = .ok (.aload_n 0, 1) := by decide +kernel
theorem dX7_into_12 : decode cX7_into 12 = .ok (.getfield 152, 3) := by decide +kernel
theorem dX7_into_15 : decode cX7_into 15 = .ok (.iastore, 1) := by decide +kernel
theorem dX7_into_16 : decode cX7_into 16 = .ok (.iload 5, 2) := by decide +kernel
theorem dX7_into_18 : decode cX7_into 18 = .ok (.ireturn, 1) := by decide +kernel
set_option maxRecDepth 20000 in
theorem ggX7_takeLake_X7_takeNumber : GoodIn wsX7_takeLake wsX7_takeNumber := goodIn_r _ [9, 10, 11, 12, 2, 1, 13, 14, 15, 16, 17, 8, 18, 19, 20, 21, 22, 23, 24, 25, 26, 27, 28, 29, 30, 31, 32, 33, 34, 35, 36, 37, 38, 39, 40, 41, 42, 43, 44, 45, 46, 47, 48, 49, 50, 51, 52, 53, 54, 55, 56, 57, 58, 59, 60, 61, 62, 63, 64, 65, 66, 67, 68, 69, 70, 71, 72, 73, 74] (by decide +kernel) (by decide +kernel)
set_option maxRecDepth 20000 in
theorem gX7_takeLake_X7_takeNumber : GoodIn wsX7_takeLake (wsV RX7 155 RX7 yX7_takeNumber wsX7_takeNumber) := goodIn_app (goodIn_of _ (by decide +kernel)) ggX7_takeLake_X7_takeNumber
set_option maxRecDepth 20000 in
theorem ggX7_takeLake_X7_fails : GoodIn wsX7_takeLake wsX7_fails := goodIn_r _ [25, 26, 27, 28, 29, 30, 31, 32, 33, 34, 35, 36, 37, 38, 39, 40, 41, 42, 43, 44, 45, 46, 47, 48, 49, 50, 51, 52, 53, 54, 55, 56, 57, 58, 59, 60, 61, 62, 63, 64, 65, 66, 67, 68, 69, 70, 71, 72, 73, 74] (by decide +kernel) (by decide +kernel)
set_option maxRecDepth 20000 in
theorem gX7_takeLake_X7_fails : GoodIn wsX7_takeLake (wsV RX7 145 RX7 yX7_fails wsX7_fails) := goodIn_app (goodIn_of _ (by decide +kernel)) ggX7_takeLake_X7_fails
theorem dX7_takeLake_0 : decode cX7_takeLake 0 = .ok (.aload_n 0, 1) := by decide +kernel
theorem dX7_takeLake_1 : decode cX7_takeLake 1 = .ok (.iconst 1, 1) := by decide +kernel
theorem dX7_takeLake_2 : decode cX7_takeLake 2 = .ok (.bipush 12, 2) := by decide +kernel
theorem dX7_takeLake_4 : decode cX7_takeLake 4 = .ok (.invokevirtual 155, 3) := by decide +kernel
theorem dX7_takeLake_7 : decode cX7_takeLake 7 = .ok (.istore_n 1, 1) := by decide +kernel
theorem dX7_takeLake_8 : decode cX7_takeLake 8 = .ok (.aload_n 0, 1) := by decide +kernel
theorem dX7_takeLake_9 : decode cX7_takeLake 9 = .ok (.getfield 152, 3) := by decide +kernel
theorem dX7_takeLake_12 : decode cX7_takeLake 12 = .ok (.istore_n 2, 1) := by decide +kernel
theorem dX7_takeLake_13 : decode cX7_takeLake 13 = .ok (.iload_n 1, 1) := by decide +kernel
theorem dX7_takeLake_14 : decode cX7_takeLake 14 = .ok (.ifCond .le 7, 3) := by decide +kernel
theorem dX7_takeLake_17 : decode cX7_takeLake 17 = .ok (.iload_n 1, 1) := by decide +kernel
theorem dX7_takeLake_18 : decode cX7_takeLake 18 = .ok (.goto 10, 3) := by decide +kernel
theorem dX7_takeLake_21 : decode cX7_takeLake 21 = .ok (.aload_n 0, 1) := by decide +kernel
theorem dX7_takeLake_22 : decode cX7_takeLake 22 = .ok (.iconst 1, 1) := by decide +kernel
theorem dX7_takeLake_23 : decode cX7_takeLake 23 = .ok (.bipush 12, 2) := by decide +kernel
theorem dX7_takeLake_25 : decode cX7_takeLake 25 = .ok (.invokevirtual 155, 3) := by decide +kernel
theorem dX7_takeLake_28 : decode cX7_takeLake 28 = .ok (.istore_n 1, 1) := by decide +kernel
theorem dX7_takeLake_29 : decode cX7_takeLake 29 = .ok (.iload_n 1, 1) := by decide +kernel
theorem dX7_takeLake_30 : decode cX7_takeLake 30 = .ok (.ifCond .le 5, 3) := by decide +kernel
theorem dX7_takeLake_33 : decode cX7_takeLake 33 = .ok (.iload_n 1, 1) := by decide +kernel
theorem dX7_takeLake_34 : decode cX7_takeLake 34 = .ok (.ireturn, 1) := by decide +kernel
theorem dX7_takeLake_35 : decode cX7_takeLake 35 = .ok (.iload_n 2, 1) := by decide +kernel
theorem dX7_takeLake_36 : decode cX7_takeLake 36 = .ok (.aload_n 0, 1) := by decide +kernel
theorem dX7_takeLake_37 : decode cX7_takeLake 37 = .ok (.getfield 152, 3) := by decide +kernel
theorem dX7_takeLake_40 : decode cX7_takeLake 40 = .ok (.imul, 1) := by decide +kernel
theorem dX7_takeLake_41 : decode cX7_takeLake 41 = .ok (.bipush 60, 2) := by decide +kernel
theorem dX7_takeLake_43 : decode cX7_takeLake 43 = .ok (.if_icmp .le 13, 3) := by decide +kernel
theorem dX7_takeLake_46 : decode cX7_takeLake 46 = .ok (.aload_n 0, 1) := by decide +kernel
theorem dX7_takeLake_47 : decode cX7_takeLake 47 = .ok (.iconst 2, 1) := by decide +kernel
theorem dX7_takeLake_48 : decode cX7_takeLake 48 = .ok (.aload_n 0, 1) := by decide +kernel
theorem dX7_takeLake_49 : decode cX7_takeLake 49 = .ok (.getfield 149, 3) := by decide +kernel
