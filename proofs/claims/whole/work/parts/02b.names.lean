theorem dX2_copyFrom_9 : decode cX2_copyFrom 9 = .ok (.aload_n 1, 1) := by decide +kernel
theorem dX2_copyFrom_10 : decode cX2_copyFrom 10 = .ok (.getfield 43, 3) := by decide +kernel
theorem dX2_copyFrom_13 : decode cX2_copyFrom 13 = .ok (.putfield 43, 3) := by decide +kernel
theorem dX2_copyFrom_16 : decode cX2_copyFrom 16 = .ok (.aload_n 0, 1) := by decide +kernel
theorem dX2_copyFrom_17 : decode cX2_copyFrom 17 = .ok (.aload_n 1, 1) := by decide +kernel
theorem dX2_copyFrom_18 : decode cX2_copyFrom 18 = .ok (.getfield 46, 3) := by decide +kernel
theorem dX2_copyFrom_21 : decode cX2_copyFrom 21 = .ok (.putfield 46, 3) := by decide +kernel
theorem dX2_copyFrom_24 : decode cX2_copyFrom 24 = .ok (.aload_n 0, 1) := by decide +kernel
theorem dX2_copyFrom_25 : decode cX2_copyFrom 25 = .ok (.aload_n 1, 1) := by decide +kernel
theorem dX2_copyFrom_26 : decode cX2_copyFrom 26 = .ok (.getfield 49, 3) := by decide +kernel
theorem dX2_copyFrom_29 : decode cX2_copyFrom 29 = .ok (.putfield 49, 3) := by decide +kernel
theorem dX2_copyFrom_32 : decode cX2_copyFrom 32 = .ok (.aload_n 0, 1) := by decide +kernel
theorem dX2_copyFrom_33 : decode cX2_copyFrom 33 = .ok (.aload_n 1, 1) := by decide +kernel
theorem dX2_copyFrom_34 : decode cX2_copyFrom 34 = .ok (.getfield 52, 3) := by decide +kernel
theorem dX2_copyFrom_37 : decode cX2_copyFrom 37 = .ok (.putfield 52, 3) := by decide +kernel
theorem dX2_copyFrom_40 : decode cX2_copyFrom 40 = .ok (.aload_n 0, 1) := by decide +kernel
theorem dX2_copyFrom_41 : decode cX2_copyFrom 41 = .ok (.aload_n 1, 1) := by decide +kernel
theorem dX2_copyFrom_42 : decode cX2_copyFrom 42 = .ok (.getfield 55, 3) := by decide +kernel
theorem dX2_copyFrom_45 : decode cX2_copyFrom 45 = .ok (.putfield 55, 3) := by decide +kernel
theorem dX2_copyFrom_48 : decode cX2_copyFrom 48 = .ok (.aload_n 1, 1) := by decide +kernel
theorem dX2_copyFrom_49 : decode cX2_copyFrom 49 = .ok (.getfield 9, 3) := by decide +kernel
theorem dX2_copyFrom_52 : decode cX2_copyFrom 52 = .ok (.iconst 0, 1) := by decide +kernel
theorem dX2_copyFrom_53 : decode cX2_copyFrom 53 = .ok (.aload_n 0, 1) := by decide +kernel
theorem dX2_copyFrom_54 : decode cX2_copyFrom 54 = .ok (.getfield 9, 3) := by decide +kernel
theorem dX2_copyFrom_57 : decode cX2_copyFrom 57 = .ok (.iconst 0, 1) := by decide +kernel
theorem dX2_copyFrom_58 : decode cX2_copyFrom 58 = .ok (.bipush 6, 2) := by decide +kernel
theorem dX2_copyFrom_60 : decode cX2_copyFrom 60 = .ok (.invokestatic 58, 3) := by decide +kernel
theorem dX2_copyFrom_63 : decode cX2_copyFrom 63 = .ok (.aload_n 1, 1) := by decide +kernel
theorem dX2_copyFrom_64 : decode cX2_copyFrom 64 = .ok (.getfield 15, 3) := by decide +kernel
theorem dX2_copyFrom_67 : decode cX2_copyFrom 67 = .ok (.iconst 0, 1) := by decide +kernel
theorem dX2_copyFrom_68 : decode cX2_copyFrom 68 = .ok (.aload_n 0, 1) := by decide +kernel
theorem dX2_copyFrom_69 : decode cX2_copyFrom 69 = .ok (.getfield 15, 3) := by decide +kernel
theorem dX2_copyFrom_72 : decode cX2_copyFrom 72 = .ok (.iconst 0, 1) := by decide +kernel
theorem dX2_copyFrom_73 : decode cX2_copyFrom 73 = .ok (.bipush 6, 2) := by decide +kernel
theorem dX2_copyFrom_75 : decode cX2_copyFrom 75 = .ok (.invokestatic 58, 3) := by decide +kernel
theorem dX2_copyFrom_78 : decode cX2_copyFrom 78 = .ok (.aload_n 1, 1) := by decide +kernel
theorem dX2_copyFrom_79 : decode cX2_copyFrom 79 = .ok (.getfield 18, 3) := by decide +kernel
theorem dX2_copyFrom_82 : decode cX2_copyFrom 82 = .ok (.iconst 0, 1) := by decide +kernel
theorem dX2_copyFrom_83 : decode cX2_copyFrom 83 = .ok (.aload_n 0, 1) := by decide +kernel
theorem dX2_copyFrom_84 : decode cX2_copyFrom 84 = .ok (.getfield 18, 3) := by decide +kernel
theorem dX2_copyFrom_87 : decode cX2_copyFrom 87 = .ok (.iconst 0, 1) := by decide +kernel
theorem dX2_copyFrom_88 : decode cX2_copyFrom 88 = .ok (.bipush 6, 2) := by decide +kernel
theorem dX2_copyFrom_90 : decode cX2_copyFrom 90 = .ok (.invokestatic 58, 3) := by decide +kernel
theorem dX2_copyFrom_93 : decode cX2_copyFrom 93 = .ok (.aload_n 1, 1) := by decide +kernel
theorem dX2_copyFrom_94 : decode cX2_copyFrom 94 = .ok (.getfield 21, 3) := by decide +kernel
theorem dX2_copyFrom_97 : decode cX2_copyFrom 97 = .ok (.iconst 0, 1) := by decide +kernel
theorem dX2_copyFrom_98 : decode cX2_copyFrom 98 = .ok (.aload_n 0, 1) := by decide +kernel
theorem dX2_copyFrom_99 : decode cX2_copyFrom 99 = .ok (.getfield 21, 3) := by decide +kernel
theorem dX2_copyFrom_102 : decode cX2_copyFrom 102 = .ok (.iconst 0, 1) := by decide +kernel
theorem dX2_copyFrom_103 : decode cX2_copyFrom 103 = .ok (.bipush 60, 2) := by decide +kernel
theorem dX2_copyFrom_105 : decode cX2_copyFrom 105 = .ok (.invokestatic 58, 3) := by decide +kernel
theorem dX2_copyFrom_108 : decode cX2_copyFrom 108 = .ok (.aload_n 1, 1) := by decide +kernel
theorem dX2_copyFrom_109 : decode cX2_copyFrom 109 = .ok (.getfield 24, 3) := by decide +kernel
theorem dX2_copyFrom_112 : decode cX2_copyFrom 112 = .ok (.iconst 0, 1) := by decide +kernel
theorem dX2_copyFrom_113 : decode cX2_copyFrom 113 = .ok (.aload_n 0, 1) := by decide +kernel
theorem dX2_copyFrom_114 : decode cX2_copyFrom 114 = .ok (.getfield 24, 3) := by decide +kernel
theorem dX2_copyFrom_117 : decode cX2_copyFrom 117 = .ok (.iconst 0, 1) := by decide +kernel
theorem dX2_copyFrom_118 : decode cX2_copyFrom 118 = .ok (.bipush 60, 2) := by decide +kernel
theorem dX2_copyFrom_120 : decode cX2_copyFrom 120 = .ok (.invokestatic 58, 3) := by decide +kernel
theorem dX2_copyFrom_123 : decode cX2_copyFrom 123 = .ok (.aload_n 1, 1) := by decide +kernel
theorem dX2_copyFrom_124 : decode cX2_copyFrom 124 = .ok (.getfield 27, 3) := by decide +kernel
theorem dX2_copyFrom_127 : decode cX2_copyFrom 127 = .ok (.iconst 0, 1) := by decide +kernel
theorem dX2_copyFrom_128 : decode cX2_copyFrom 128 = .ok (.aload_n 0, 1) := by decide +kernel
theorem dX2_copyFrom_129 : decode cX2_copyFrom 129 = .ok (.getfield 27, 3) := by decide +kernel
theorem dX2_copyFrom_132 : decode cX2_copyFrom 132 = .ok (.iconst 0, 1) := by decide +kernel
theorem dX2_copyFrom_133 : decode cX2_copyFrom 133 = .ok (.bipush 10, 2) := by decide +kernel
theorem dX2_copyFrom_135 : decode cX2_copyFrom 135 = .ok (.invokestatic 58, 3) := by decide +kernel
theorem dX2_copyFrom_138 : decode cX2_copyFrom 138 = .ok (.aload_n 1, 1) := by decide +kernel
theorem dX2_copyFrom_139 : decode cX2_copyFrom 139 = .ok (.getfield 30, 3) := by decide +kernel
theorem dX2_copyFrom_142 : decode cX2_copyFrom 142 = .ok (.iconst 0, 1) := by decide +kernel
theorem dX2_copyFrom_143 : decode cX2_copyFrom 143 = .ok (.aload_n 0, 1) := by decide +kernel
theorem dX2_copyFrom_144 : decode cX2_copyFrom 144 = .ok (.getfield 30, 3) := by decide +kernel
theorem dX2_copyFrom_147 : decode cX2_copyFrom 147 = .ok (.iconst 0, 1) := by decide +kernel
theorem dX2_copyFrom_148 : decode cX2_copyFrom 148 = .ok (.bipush 10, 2) := by decide +kernel
theorem dX2_copyFrom_150 : decode cX2_copyFrom 150 = .ok (.invokestatic 58, 3) := by decide +kernel
theorem dX2_copyFrom_153 : decode cX2_copyFrom 153 = .ok (.aload_n 1, 1) := by decide +kernel
theorem dX2_copyFrom_154 : decode cX2_copyFrom 154 = .ok (.getfield 33, 3) := by decide +kernel
theorem dX2_copyFrom_157 : decode cX2_copyFrom 157 = .ok (.iconst 0, 1) := by decide +kernel
theorem dX2_copyFrom_158 : decode cX2_copyFrom 158 = .ok (.aload_n 0, 1) := by decide +kernel
theorem dX2_copyFrom_159 : decode cX2_copyFrom 159 = .ok (.getfield 33, 3) := by decide +kernel
theorem dX2_copyFrom_162 : decode cX2_copyFrom 162 = .ok (.iconst 0, 1) := by decide +kernel
theorem dX2_copyFrom_163 : decode cX2_copyFrom 163 = .ok (.bipush 10, 2) := by decide +kernel
theorem dX2_copyFrom_165 : decode cX2_copyFrom 165 = .ok (.invokestatic 58, 3) := by decide +kernel
theorem dX2_copyFrom_168 : decode cX2_copyFrom 168 = .ok (.return_, 1) := by decide +kernel
theorem dX2_addDoor_0 : decode cX2_addDoor 0 = .ok (.aload_n 0, 1) := by decide +kernel
theorem dX2_addDoor_1 : decode cX2_addDoor 1 = .ok (.getfield 46, 3) := by decide +kernel
theorem dX2_addDoor_4 : decode cX2_addDoor 4 = .ok (.bipush 6, 2) := by decide +kernel
theorem dX2_addDoor_6 : decode cX2_addDoor 6 = .ok (.if_icmp .ge 43, 3) := by decide +kernel
theorem dX2_addDoor_9 : decode cX2_addDoor 9 = .ok (.aload_n 0, 1) := by decide +kernel
theorem dX2_addDoor_10 : decode cX2_addDoor 10 = .ok (.getfield 9, 3) := by decide +kernel
theorem dX2_addDoor_13 : decode cX2_addDoor 13 = .ok (.aload_n 0, 1) := by decide +kernel
theorem dX2_addDoor_14 : decode cX2_addDoor 14 = .ok (.getfield 46, 3) := by decide +kernel
theorem dX2_addDoor_17 : decode cX2_addDoor 17 = .ok (.iload_n 1, 1) := by decide +kernel
theorem dX2_addDoor_18 : decode cX2_addDoor 18 = .ok (.iastore, 1) := by decide +kernel
theorem dX2_addDoor_19 : decode cX2_addDoor 19 = .ok (.aload_n 0, 1) := by decide +kernel
theorem dX2_addDoor_20 : decode cX2_addDoor 20 = .ok (.getfield 15, 3) := by decide +kernel
theorem dX2_addDoor_23 : decode cX2_addDoor 23 = .ok (.aload_n 0, 1) := by decide +kernel
theorem dX2_addDoor_24 : decode cX2_addDoor 24 = .ok (.getfield 46, 3) := by decide +kernel
theorem dX2_addDoor_27 : decode cX2_addDoor 27 = .ok (.iload_n 2, 1) := by decide +kernel
theorem dX2_addDoor_28 : decode cX2_addDoor 28 = .ok (.iastore, 1) := by decide +kernel
theorem dX2_addDoor_29 : decode cX2_addDoor 29 = .ok (.aload_n 0, 1) := by decide +kernel
theorem dX2_addDoor_30 : decode cX2_addDoor 30 = .ok (.getfield 18, 3) := by decide +kernel
theorem dX2_addDoor_33 : decode cX2_addDoor 33 = .ok (.aload_n 0, 1) := by decide +kernel
theorem dX2_addDoor_34 : decode cX2_addDoor 34 = .ok (.getfield 46, 3) := by decide +kernel
theorem dX2_addDoor_37 : decode cX2_addDoor 37 = .ok (.iload_n 3, 1) := by decide +kernel
theorem dX2_addDoor_38 : decode cX2_addDoor 38 = .ok (.iastore, 1) := by decide +kernel
theorem dX2_addDoor_39 : decode cX2_addDoor 39 = .ok (.aload_n 0, 1) := by decide +kernel
theorem dX2_addDoor_40 : decode cX2_addDoor 40 = .ok (.dup, 1) := by decide +kernel
theorem dX2_addDoor_41 : decode cX2_addDoor 41 = .ok (.getfield 46, 3) := by decide +kernel
theorem dX2_addDoor_44 : decode cX2_addDoor 44 = .ok (.iconst 1, 1) := by decide +kernel
theorem dX2_addDoor_45 : decode cX2_addDoor 45 = .ok (.iadd, 1) := by decide +kernel
theorem dX2_addDoor_46 : decode cX2_addDoor 46 = .ok (.putfield 46, 3) := by decide +kernel
theorem dX2_addDoor_49 : decode cX2_addDoor 49 = .ok (.return_, 1) := by decide +kernel
theorem dX2_addMist_0 : decode cX2_addMist 0 = .ok (.aload_n 0, 1) := by decide +kernel
theorem dX2_addMist_1 : decode cX2_addMist 1 = .ok (.getfield 49, 3) := by decide +kernel
theorem dX2_addMist_4 : decode cX2_addMist 4 = .ok (.bipush 10, 2) := by decide +kernel
theorem dX2_addMist_6 : decode cX2_addMist 6 = .ok (.if_icmp .ge 43, 3) := by decide +kernel
theorem dX2_addMist_9 : decode cX2_addMist 9 = .ok (.aload_n 0, 1) := by decide +kernel
theorem dX2_addMist_10 : decode cX2_addMist 10 = .ok (.getfield 27, 3) := by decide +kernel
theorem dX2_addMist_13 : decode cX2_addMist 13 = .ok (.aload_n 0, 1) := by decide +kernel
theorem dX2_addMist_14 : decode cX2_addMist 14 = .ok (.getfield 49, 3) := by decide +kernel
theorem dX2_addMist_17 : decode cX2_addMist 17 = .ok (.iload_n 1, 1) := by decide +kernel
theorem dX2_addMist_18 : decode cX2_addMist 18 = .ok (.iastore, 1) := by decide +kernel
theorem dX2_addMist_19 : decode cX2_addMist 19 = .ok (.aload_n 0, 1) := by decide +kernel
theorem dX2_addMist_20 : decode cX2_addMist 20 = .ok (.getfield 30, 3) := by decide +kernel
theorem dX2_addMist_23 : decode cX2_addMist 23 = .ok (.aload_n 0, 1) := by decide +kernel
theorem dX2_addMist_24 : decode cX2_addMist 24 = .ok (.getfield 49, 3) := by decide +kernel
theorem dX2_addMist_27 : decode cX2_addMist 27 = .ok (.iload_n 2, 1) := by decide +kernel
theorem dX2_addMist_28 : decode cX2_addMist 28 = .ok (.iastore, 1) := by decide +kernel
theorem dX2_addMist_29 : decode cX2_addMist 29 = .ok (.aload_n 0, 1) := by decide +kernel
theorem dX2_addMist_30 : decode cX2_addMist 30 = .ok (.getfield 33, 3) := by decide +kernel
theorem dX2_addMist_33 : decode cX2_addMist 33 = .ok (.aload_n 0, 1) := by decide +kernel
theorem dX2_addMist_34 : decode cX2_addMist 34 = .ok (.getfield 49, 3) := by decide +kernel
theorem dX2_addMist_37 : decode cX2_addMist 37 = .ok (.iload_n 3, 1) := by decide +kernel
theorem dX2_addMist_38 : decode cX2_addMist 38 = .ok (.iastore, 1) := by decide +kernel
theorem dX2_addMist_39 : decode cX2_addMist 39 = .ok (.aload_n 0, 1) := by decide +kernel
theorem dX2_addMist_40 : decode cX2_addMist 40 = .ok (.dup, 1) := by decide +kernel
theorem dX2_addMist_41 : decode cX2_addMist 41 = .ok (.getfield 49, 3) := by decide +kernel
theorem dX2_addMist_44 : decode cX2_addMist 44 = .ok (.iconst 1, 1) := by decide +kernel
theorem dX2_addMist_45 : decode cX2_addMist 45 = .ok (.iadd, 1) := by decide +kernel
theorem dX2_addMist_46 : decode cX2_addMist 46 = .ok (.putfield 49, 3) := by decide +kernel
theorem dX2_addMist_49 : decode cX2_addMist 49 = .ok (.return_, 1) := by decide +kernel
theorem dX2_cells_0 : decode cX2_cells 0 = .ok (.aload_n 0, 1) := by decide +kernel
theorem dX2_cells_1 : decode cX2_cells 1 = .ok (.getfield 39, 3) := by decide +kernel
theorem dX2_cells_4 : decode cX2_cells 4 = .ok (.aload_n 0, 1) := by decide +kernel
theorem dX2_cells_5 : decode cX2_cells 5 = .ok (.getfield 43, 3) := by decide +kernel
theorem dX2_cells_8 : decode cX2_cells 8 = .ok (.imul, 1) := by decide +kernel
theorem dX2_cells_9 : decode cX2_cells 9 = .ok (.ireturn, 1) := by decide +kernel
theorem dX2_hasCell_0 : decode cX2_hasCell 0 = .ok (.iload_n 1, 1) := by decide +kernel
theorem dX2_hasCell_1 : decode cX2_hasCell 1 = .ok (.ifCond .lt 27, 3) := by decide +kernel
theorem dX2_hasCell_4 : decode cX2_hasCell 4 = .ok (.iload_n 1, 1) := by decide +kernel
theorem dX2_hasCell_5 : decode cX2_hasCell 5 = .ok (.aload_n 0, 1) := by decide +kernel
theorem dX2_hasCell_6 : decode cX2_hasCell 6 = .ok (.getfield 39, 3) := by decide +kernel
theorem dX2_hasCell_9 : decode cX2_hasCell 9 = .ok (.if_icmp .ge 19, 3) := by decide +kernel
theorem dX2_hasCell_12 : decode cX2_hasCell 12 = .ok (.iload_n 2, 1) := by decide +kernel
theorem dX2_hasCell_13 : decode cX2_hasCell 13 = .ok (.ifCond .lt 15, 3) := by decide +kernel
theorem dX2_hasCell_16 : decode cX2_hasCell 16 = .ok (.iload_n 2, 1) := by decide +kernel
theorem dX2_hasCell_17 : decode cX2_hasCell 17 = .ok (.aload_n 0, 1) := by decide +kernel
theorem dX2_hasCell_18 : decode cX2_hasCell 18 = .ok (.getfield 43, 3) := by decide +kernel
theorem dX2_hasCell_21 : decode cX2_hasCell 21 = .ok (.if_icmp .ge 7, 3) := by decide +kernel
theorem dX2_hasCell_24 : decode cX2_hasCell 24 = .ok (.iconst 1, 1) := by decide +kernel
theorem dX2_hasCell_25 : decode cX2_hasCell 25 = .ok (.goto 4, 3) := by decide +kernel
theorem dX2_hasCell_28 : decode cX2_hasCell 28 = .ok (.iconst 0, 1) := by decide +kernel
theorem dX2_hasCell_29 : decode cX2_hasCell 29 = .ok (.ireturn, 1) := by decide +kernel
theorem dX2_hasMan_0 : decode cX2_hasMan 0 = .ok (.iload_n 1, 1) := by decide +kernel
theorem dX2_hasMan_1 : decode cX2_hasMan 1 = .ok (.ifCond .lt 15, 3) := by decide +kernel
theorem dX2_hasMan_4 : decode cX2_hasMan 4 = .ok (.iload_n 1, 1) := by decide +kernel
theorem dX2_hasMan_5 : decode cX2_hasMan 5 = .ok (.aload_n 0, 1) := by decide +kernel
theorem dX2_hasMan_6 : decode cX2_hasMan 6 = .ok (.getfield 46, 3) := by decide +kernel
theorem dX2_hasMan_9 : decode cX2_hasMan 9 = .ok (.if_icmp .ge 7, 3) := by decide +kernel
theorem dX2_hasMan_12 : decode cX2_hasMan 12 = .ok (.iconst 1, 1) := by decide +kernel
theorem dX2_hasMan_13 : decode cX2_hasMan 13 = .ok (.goto 4, 3) := by decide +kernel
theorem dX2_hasMan_16 : decode cX2_hasMan 16 = .ok (.iconst 0, 1) := by decide +kernel
theorem dX2_hasMan_17 : decode cX2_hasMan 17 = .ok (.ireturn, 1) := by decide +kernel
theorem dX2_numberOf_0 : decode cX2_numberOf 0 = .ok (.iload_n 2, 1) := by decide +kernel
theorem dX2_numberOf_1 : decode cX2_numberOf 1 = .ok (.aload_n 0, 1) := by decide +kernel
theorem dX2_numberOf_2 : decode cX2_numberOf 2 = .ok (.getfield 39, 3) := by decide +kernel
theorem dX2_numberOf_5 : decode cX2_numberOf 5 = .ok (.imul, 1) := by decide +kernel
theorem dX2_numberOf_6 : decode cX2_numberOf 6 = .ok (.iload_n 1, 1) := by decide +kernel
theorem dX2_numberOf_7 : decode cX2_numberOf 7 = .ok (.iadd, 1) := by decide +kernel
theorem dX2_numberOf_8 : decode cX2_numberOf 8 = .ok (.ireturn, 1) := by decide +kernel
theorem dX2_farOn_0 : decode cX2_farOn 0 = .ok (.iconst (-1), 1) := by decide +kernel
theorem dX2_farOn_1 : decode cX2_farOn 1 = .ok (.istore_n 2, 1) := by decide +kernel
theorem dX2_farOn_2 : decode cX2_farOn 2 = .ok (.iconst 0, 1) := by decide +kernel
theorem dX2_farOn_3 : decode cX2_farOn 3 = .ok (.istore_n 3, 1) := by decide +kernel
theorem dX2_farOn_4 : decode cX2_farOn 4 = .ok (.iload_n 3, 1) := by decide +kernel
theorem dX2_farOn_5 : decode cX2_farOn 5 = .ok (.aload_n 0, 1) := by decide +kernel
theorem dX2_farOn_6 : decode cX2_farOn 6 = .ok (.getfield 49, 3) := by decide +kernel
theorem dX2_farOn_9 : decode cX2_farOn 9 = .ok (.if_icmp .ge 63, 3) := by decide +kernel
theorem dX2_farOn_12 : decode cX2_farOn 12 = .ok (.iload_n 1, 1) := by decide +kernel
theorem dX2_farOn_13 : decode cX2_farOn 13 = .ok (.aload_n 0, 1) := by decide +kernel
theorem dX2_farOn_14 : decode cX2_farOn 14 = .ok (.getfield 27, 3) := by decide +kernel
theorem dX2_farOn_17 : decode cX2_farOn 17 = .ok (.iload_n 3, 1) := by decide +kernel
theorem dX2_farOn_18 : decode cX2_farOn 18 = .ok (.iaload, 1) := by decide +kernel
theorem dX2_farOn_19 : decode cX2_farOn 19 = .ok (.if_icmp .lt 17, 3) := by decide +kernel
theorem dX2_farOn_22 : decode cX2_farOn 22 = .ok (.iload_n 1, 1) := by decide +kernel
theorem dX2_farOn_23 : decode cX2_farOn 23 = .ok (.aload_n 0, 1) := by decide +kernel
theorem dX2_farOn_24 : decode cX2_farOn 24 = .ok (.getfield 30, 3) := by decide +kernel
theorem dX2_farOn_27 : decode cX2_farOn 27 = .ok (.iload_n 3, 1) := by decide +kernel
theorem dX2_farOn_28 : decode cX2_farOn 28 = .ok (.iaload, 1) := by decide +kernel
theorem dX2_farOn_29 : decode cX2_farOn 29 = .ok (.if_icmp .gt 7, 3) := by decide +kernel
theorem dX2_farOn_32 : decode cX2_farOn 32 = .ok (.iconst 1, 1) := by decide +kernel
theorem dX2_farOn_33 : decode cX2_farOn 33 = .ok (.goto 4, 3) := by decide +kernel
theorem dX2_farOn_36 : decode cX2_farOn 36 = .ok (.iconst 0, 1) := by decide +kernel
theorem dX2_farOn_37 : decode cX2_farOn 37 = .ok (.istore 4, 2) := by decide +kernel
theorem dX2_farOn_39 : decode cX2_farOn 39 = .ok (.iload 4, 2) := by decide +kernel
theorem dX2_farOn_41 : decode cX2_farOn 41 = .ok (.ifCond .eq 25, 3) := by decide +kernel
theorem dX2_farOn_44 : decode cX2_farOn 44 = .ok (.iload_n 2, 1) := by decide +kernel
theorem dX2_farOn_45 : decode cX2_farOn 45 = .ok (.iconst (-1), 1) := by decide +kernel
theorem dX2_farOn_46 : decode cX2_farOn 46 = .ok (.if_icmp .eq 13, 3) := by decide +kernel
theorem dX2_farOn_49 : decode cX2_farOn 49 = .ok (.aload_n 0, 1) := by decide +kernel
theorem dX2_farOn_50 : decode cX2_farOn 50 = .ok (.getfield 33, 3) := by decide +kernel
theorem dX2_farOn_53 : decode cX2_farOn 53 = .ok (.iload_n 3, 1) := by decide +kernel
theorem dX2_farOn_54 : decode cX2_farOn 54 = .ok (.iaload, 1) := by decide +kernel
theorem dX2_farOn_55 : decode cX2_farOn 55 = .ok (.iload_n 2, 1) := by decide +kernel
theorem dX2_farOn_56 : decode cX2_farOn 56 = .ok (.if_icmp .ge 10, 3) := by decide +kernel
theorem dX2_farOn_59 : decode cX2_farOn 59 = .ok (.aload_n 0, 1) := by decide +kernel
theorem dX2_farOn_60 : decode cX2_farOn 60 = .ok (.getfield 33, 3) := by decide +kernel
theorem dX2_farOn_63 : decode cX2_farOn 63 = .ok (.iload_n 3, 1) := by decide +kernel
theorem dX2_farOn_64 : decode cX2_farOn 64 = .ok (.iaload, 1) := by decide +kernel
theorem dX2_farOn_65 : decode cX2_farOn 65 = .ok (.istore_n 2, 1) := by decide +kernel
theorem dX2_farOn_66 : decode cX2_farOn 66 = .ok (.iinc 3 1, 3) := by decide +kernel
theorem dX2_farOn_69 : decode cX2_farOn 69 = .ok (.goto (-65), 3) := by decide +kernel
theorem dX2_farOn_72 : decode cX2_farOn 72 = .ok (.iload_n 2, 1) := by decide +kernel
theorem dX2_farOn_73 : decode cX2_farOn 73 = .ok (.ireturn, 1) := by decide +kernel
set_option maxRecDepth 20000 in
theorem ggX3_init_X2_init : GoodIn wsX3_init wsX2_init := goodIn_r _ [18, 19, 2, 3, 11, 20, 21, 22, 23, 24, 25, 26, 27, 28, 29, 30, 6, 31, 32, 33, 34, 35, 36, 37, 38, 39, 40, 41, 42, 43, 44, 45, 46, 47, 48, 49, 50, 51] (by decide +kernel) (by decide +kernel)
set_option maxRecDepth 20000 in
theorem gX3_init_X2_init : GoodIn wsX3_init (wsX2_init) := ggX3_init_X2_init
theorem dX3_init_0 : decode cX3_init 0 = .ok (.aload_n 0, 1) := by decide +kernel
theorem dX3_init_1 : decode cX3_init 1 = .ok (.invokespecial 3, 3) := by decide +kernel
theorem dX3_init_4 : decode cX3_init 4 = .ok (.aload_n 0, 1) := by decide +kernel
theorem dX3_init_5 : decode cX3_init 5 = .ok (.new 9, 3) := by decide +kernel
theorem dX3_init_8 : decode cX3_init 8 = .ok (.dup, 1) := by decide +kernel
theorem dX3_init_9 : decode cX3_init 9 = .ok (.invokespecial 11, 3) := by decide +kernel
theorem dX3_init_12 : decode cX3_init 12 = .ok (.putfield 12, 3) := by decide +kernel
theorem dX3_init_15 : decode cX3_init 15 = .ok (.aload_n 0, 1) := by decide +kernel
theorem dX3_init_16 : decode cX3_init 16 = .ok (.iconst (-1), 1) := by decide +kernel
theorem dX3_init_17 : decode cX3_init 17 = .ok (.putfield 18, 3) := by decide +kernel
theorem dX3_init_20 : decode cX3_init 20 = .ok (.aload_n 0, 1) := by decide +kernel
theorem dX3_init_21 : decode cX3_init 21 = .ok (.sipush 500, 3) := by decide +kernel
theorem dX3_init_24 : decode cX3_init 24 = .ok (.newarray .byte, 2) := by decide +kernel
theorem dX3_init_26 : decode cX3_init 26 = .ok (.putfield 22, 3) := by decide +kernel
theorem dX3_init_29 : decode cX3_init 29 = .ok (.aload_n 0, 1) := by decide +kernel
theorem dX3_init_30 : decode cX3_init 30 = .ok (.iconst 3, 1) := by decide +kernel
theorem dX3_init_31 : decode cX3_init 31 = .ok (.newarray .int, 2) := by decide +kernel
theorem dX3_init_33 : decode cX3_init 33 = .ok (.putfield 26, 3) := by decide +kernel
theorem dX3_init_36 : decode cX3_init 36 = .ok (.aload_n 0, 1) := by decide +kernel
theorem dX3_init_37 : decode cX3_init 37 = .ok (.bipush 6, 2) := by decide +kernel
theorem dX3_init_39 : decode cX3_init 39 = .ok (.newarray .int, 2) := by decide +kernel
theorem dX3_init_41 : decode cX3_init 41 = .ok (.putfield 30, 3) := by decide +kernel
theorem dX3_init_44 : decode cX3_init 44 = .ok (.aload_n 0, 1) := by decide +kernel
theorem dX3_init_45 : decode cX3_init 45 = .ok (.bipush 60, 2) := by decide +kernel
theorem dX3_init_47 : decode cX3_init 47 = .ok (.newarray .boolean, 2) := by decide +kernel
theorem dX3_init_49 : decode cX3_init 49 = .ok (.putfield 33, 3) := by decide +kernel
theorem dX3_init_52 : decode cX3_init 52 = .ok (.return_, 1) := by decide +kernel
theorem dX3_append_0 : decode cX3_append 0 = .ok (.aload_n 0, 1) := by decide +kernel
theorem dX3_append_1 : decode cX3_append 1 = .ok (.getfield 37, 3) := by decide +kernel
theorem dX3_append_4 : decode cX3_append 4 = .ok (.sipush 500, 3) := by decide +kernel
theorem dX3_append_7 : decode cX3_append 7 = .ok (.if_icmp .ge 23, 3) := by decide +kernel
theorem dX3_append_10 : decode cX3_append 10 = .ok (.aload_n 0, 1) := by decide +kernel
theorem dX3_append_11 : decode cX3_append 11 = .ok (.getfield 22, 3) := by decide +kernel
theorem dX3_append_14 : decode cX3_append 14 = .ok (.aload_n 0, 1) := by decide +kernel
theorem dX3_append_15 : decode cX3_append 15 = .ok (.getfield 37, 3) := by decide +kernel
theorem dX3_append_18 : decode cX3_append 18 = .ok (.iload_n 1, 1) := by decide +kernel
theorem dX3_append_19 : decode cX3_append 19 = .ok (.bastore, 1) := by decide +kernel
theorem dX3_append_20 : decode cX3_append 20 = .ok (.aload_n 0, 1) := by decide +kernel
theorem dX3_append_21 : decode cX3_append 21 = .ok (.dup, 1) := by decide +kernel
theorem dX3_append_22 : decode cX3_append 22 = .ok (.getfield 37, 3) := by decide +kernel
theorem dX3_append_25 : decode cX3_append 25 = .ok (.iconst 1, 1) := by decide +kernel
theorem dX3_append_26 : decode cX3_append 26 = .ok (.iadd, 1) := by decide +kernel
theorem dX3_append_27 : decode cX3_append 27 = .ok (.putfield 37, 3) := by decide +kernel
theorem dX3_append_30 : decode cX3_append 30 = .ok (.return_, 1) := by decide +kernel
set_option maxRecDepth 20000 in
theorem ggX3_readAll_X3_restart : GoodIn wsX3_readAll wsX3_restart := goodIn_r _ [8, 9, 2, 1, 10, 11, 12, 13, 14, 15, 16, 17, 18, 19, 20, 21, 22, 23, 24, 25, 160, 161, 162, 163, 164, 165, 166, 167, 168, 169, 170, 171, 172, 173, 174, 175, 176, 177, 178, 179, 180, 181, 182] (by decide +kernel) (by decide +kernel)
set_option maxRecDepth 20000 in
theorem gX3_readAll_X3_restart : GoodIn wsX3_readAll (wsV RX3 40 RX3 yX3_restart wsX3_restart) := goodIn_app (goodIn_of _ (by decide +kernel)) ggX3_readAll_X3_restart
set_option maxRecDepth 20000 in
theorem ggX3_readAll_X3_skipBlanks : GoodIn wsX3_readAll wsX3_skipBlanks := goodIn_r _ [29, 2, 3, 30, 160, 161, 162, 163, 164, 165, 166, 167, 168] (by decide +kernel) (by decide +kernel)
set_option maxRecDepth 20000 in
theorem gX3_readAll_X3_skipBlanks : GoodIn wsX3_readAll (wsV RX3 43 RX3 yX3_skipBlanks wsX3_skipBlanks) := goodIn_app (goodIn_of _ (by decide +kernel)) ggX3_readAll_X3_skipBlanks
set_option maxRecDepth 20000 in
theorem ggX3_readAll_X3_readStatement : GoodIn wsX3_readAll wsX3_readStatement := goodIn_r _ [34, 2, 11, 1, 35, 36, 37, 7, 38, 3, 30, 39, 40, 41, 42, 43, 44, 45, 46, 47, 48, 49, 50, 51, 52, 53, 54, 55, 56, 57, 58, 59, 60, 61, 62, 63, 64, 65, 66, 67, 68, 69, 70, 71, 72, 73, 74, 75, 76, 77, 78, 79, 80, 81, 82, 83, 84, 85, 86, 87, 88, 89, 90, 91, 92, 93, 94, 95, 96, 97, 98, 10, 99, 100, 101, 102, 103, 104, 105, 106, 107, 108, 109, 26, 27, 28, 29, 110, 111, 112, 113, 114, 115, 116, 117, 118, 119, 120, 121, 122, 123, 9, 124, 125, 126, 127, 128, 129, 130, 12, 131, 132, 133, 16, 134, 18, 135, 136, 137, 138, 139, 140, 141, 142, 143, 144, 145, 146, 147, 148, 149, 20, 150, 151, 152, 153, 154, 155, 156, 21, 157, 158, 159, 160, 161, 162, 163, 164, 165, 166, 167, 168, 169, 170, 171, 172, 173, 174, 175, 176, 177, 178, 179, 180, 181, 182] (by decide +kernel) (by decide +kernel)
set_option maxRecDepth 20000 in
theorem gX3_readAll_X3_readStatement : GoodIn wsX3_readAll (wsV RX3 52 RX3 yX3_readStatement wsX3_readStatement) := goodIn_app (goodIn_of _ (by decide +kernel)) ggX3_readAll_X3_readStatement
theorem dX3_readAll_0 : decode cX3_readAll 0 = .ok (.aload_n 0, 1) := by decide +kernel
theorem dX3_readAll_1 : decode cX3_readAll 1 = .ok (.invokevirtual 40, 3) := by decide +kernel
theorem dX3_readAll_4 : decode cX3_readAll 4 = .ok (.aload_n 0, 1) := by decide +kernel
theorem dX3_readAll_5 : decode cX3_readAll 5 = .ok (.invokevirtual 43, 3) := by decide +kernel
theorem dX3_readAll_8 : decode cX3_readAll 8 = .ok (.iconst 0, 1) := by decide +kernel
theorem dX3_readAll_9 : decode cX3_readAll 9 = .ok (.istore_n 1, 1) := by decide +kernel
theorem dX3_readAll_10 : decode cX3_readAll 10 = .ok (.iload_n 1, 1) := by decide +kernel
theorem dX3_readAll_11 : decode cX3_readAll 11 = .ok (.sipush 500, 3) := by decide +kernel
theorem dX3_readAll_14 : decode cX3_readAll 14 = .ok (.if_icmp .ge 35, 3) := by decide +kernel
theorem dX3_readAll_17 : decode cX3_readAll 17 = .ok (.aload_n 0, 1) := by decide +kernel
theorem dX3_readAll_18 : decode cX3_readAll 18 = .ok (.getfield 46, 3) := by decide +kernel
theorem dX3_readAll_21 : decode cX3_readAll 21 = .ok (.ifCond .ne 28, 3) := by decide +kernel
theorem dX3_readAll_24 : decode cX3_readAll 24 = .ok (.aload_n 0, 1) := by decide +kernel
theorem dX3_readAll_25 : decode cX3_readAll 25 = .ok (.getfield 49, 3) := by decide +kernel
theorem dX3_readAll_28 : decode cX3_readAll 28 = .ok (.aload_n 0, 1) := by decide +kernel
theorem dX3_readAll_29 : decode cX3_readAll 29 = .ok (.getfield 37, 3) := by decide +kernel
theorem dX3_readAll_32 : decode cX3_readAll 32 = .ok (.if_icmp .ge 17, 3) := by decide +kernel
theorem dX3_readAll_35 : decode cX3_readAll 35 = .ok (.aload_n 0, 1) := by decide +kernel
theorem dX3_readAll_36 : decode cX3_readAll 36 = .ok (.invokevirtual 52, 3) := by decide +kernel
theorem dX3_readAll_39 : decode cX3_readAll 39 = .ok (.aload_n 0, 1) := by decide +kernel
theorem dX3_readAll_40 : decode cX3_readAll 40 = .ok (.invokevirtual 43, 3) := by decide +kernel
theorem dX3_readAll_43 : decode cX3_readAll 43 = .ok (.iinc 1 1, 3) := by decide +kernel
theorem dX3_readAll_46 : decode cX3_readAll 46 = .ok (.goto (-36), 3) := by decide +kernel
theorem dX3_readAll_49 : decode cX3_readAll 49 = .ok (.aload_n 0, 1) := by decide +kernel
theorem dX3_readAll_50 : decode cX3_readAll 50 = .ok (.iconst 0, 1) := by decide +kernel
theorem dX3_readAll_51 : decode cX3_readAll 51 = .ok (.putfield 37, 3) := by decide +kernel
theorem dX3_readAll_54 : decode cX3_readAll 54 = .ok (.aload_n 0, 1) := by decide +kernel
theorem dX3_readAll_55 : decode cX3_readAll 55 = .ok (.getfield 46, 3) := by decide +kernel
theorem dX3_readAll_58 : decode cX3_readAll 58 = .ok (.ifCond .ne 7, 3) := by decide +kernel
theorem dX3_readAll_61 : decode cX3_readAll 61 = .ok (.iconst 1, 1) := by decide +kernel
theorem dX3_readAll_62 : decode cX3_readAll 62 = .ok (.goto 4, 3) := by decide +kernel
theorem dX3_readAll_65 : decode cX3_readAll 65 = .ok (.iconst 0, 1) := by decide +kernel
theorem dX3_readAll_66 : decode cX3_readAll 66 = .ok (.ireturn, 1) := by decide +kernel
set_option maxRecDepth 20000 in
theorem ggX3_restart_X2_clear : GoodIn wsX3_restart wsX2_clear := goodIn_r _ [11, 12, 13, 14, 15, 16, 17, 18, 19, 29, 30, 31, 32, 33, 34, 35, 36, 37, 38, 39, 40, 41, 42] (by decide +kernel) (by decide +kernel)
set_option maxRecDepth 20000 in
theorem gX3_restart_X2_clear : GoodIn wsX3_restart (wsV RX3 55 RX2 yX2_clear wsX2_clear) := goodIn_app (goodIn_of _ (by decide +kernel)) ggX3_restart_X2_clear
theorem dX3_restart_0 : decode cX3_restart 0 = .ok (.aload_n 0, 1) := by decide +kernel
theorem dX3_restart_1 : decode cX3_restart 1 = .ok (.getfield 12, 3) := by decide +kernel
theorem dX3_restart_4 : decode cX3_restart 4 = .ok (.invokevirtual 55, 3) := by decide +kernel
theorem dX3_restart_7 : decode cX3_restart 7 = .ok (.aload_n 0, 1) := by decide +kernel
theorem dX3_restart_8 : decode cX3_restart 8 = .ok (.iconst 0, 1) := by decide +kernel
theorem dX3_restart_9 : decode cX3_restart 9 = .ok (.putfield 49, 3) := by decide +kernel
theorem dX3_restart_12 : decode cX3_restart 12 = .ok (.aload_n 0, 1) := by decide +kernel
theorem dX3_restart_13 : decode cX3_restart 13 = .ok (.iconst 0, 1) := by decide +kernel
theorem dX3_restart_14 : decode cX3_restart 14 = .ok (.putfield 46, 3) := by decide +kernel
theorem dX3_restart_17 : decode cX3_restart 17 = .ok (.aload_n 0, 1) := by decide +kernel
theorem dX3_restart_18 : decode cX3_restart 18 = .ok (.iconst (-1), 1) := by decide +kernel
theorem dX3_restart_19 : decode cX3_restart 19 = .ok (.putfield 18, 3) := by decide +kernel
theorem dX3_restart_22 : decode cX3_restart 22 = .ok (.iconst 0, 1) := by decide +kernel
theorem dX3_restart_23 : decode cX3_restart 23 = .ok (.istore_n 1, 1) := by decide +kernel
theorem dX3_restart_24 : decode cX3_restart 24 = .ok (.iload_n 1, 1) := by decide +kernel
theorem dX3_restart_25 : decode cX3_restart 25 = .ok (.bipush 6, 2) := by decide +kernel
theorem dX3_restart_27 : decode cX3_restart 27 = .ok (.if_icmp .ge 16, 3) := by decide +kernel
theorem dX3_restart_30 : decode cX3_restart 30 = .ok (.aload_n 0, 1) := by decide +kernel
theorem dX3_restart_31 : decode cX3_restart 31 = .ok (.getfield 30, 3) := by decide +kernel
theorem dX3_restart_34 : decode cX3_restart 34 = .ok (.iload_n 1, 1) := by decide +kernel
theorem dX3_restart_35 : decode cX3_restart 35 = .ok (.iconst 0, 1) := by decide +kernel
theorem dX3_restart_36 : decode cX3_restart 36 = .ok (.iastore, 1) := by decide +kernel
theorem dX3_restart_37 : decode cX3_restart 37 = .ok (.iinc 1 1, 3) := by decide +kernel
theorem dX3_restart_40 : decode cX3_restart 40 = .ok (.goto (-16), 3) := by decide +kernel
theorem dX3_restart_43 : decode cX3_restart 43 = .ok (.iconst 0, 1) := by decide +kernel
theorem dX3_restart_44 : decode cX3_restart 44 = .ok (.istore_n 1, 1) := by decide +kernel
theorem dX3_restart_45 : decode cX3_restart 45 = .ok (.iload_n 1, 1) := by decide +kernel
theorem dX3_restart_46 : decode cX3_restart 46 = .ok (.bipush 60, 2) := by decide +kernel
theorem dX3_restart_48 : decode cX3_restart 48 = .ok (.if_icmp .ge 16, 3) := by decide +kernel
theorem dX3_restart_51 : decode cX3_restart 51 = .ok (.aload_n 0, 1) := by decide +kernel
theorem dX3_restart_52 : decode cX3_restart 52 = .ok (.getfield 33, 3) := by decide +kernel
theorem dX3_restart_55 : decode cX3_restart 55 = .ok (.iload_n 1, 1) := by decide +kernel
theorem dX3_restart_56 : decode cX3_restart 56 = .ok (.iconst 0, 1) := by decide +kernel
theorem dX3_restart_57 : decode cX3_restart 57 = .ok (.bastore, 1) := by decide +kernel
theorem dX3_restart_58 : decode cX3_restart 58 = .ok (.iinc 1 1, 3) := by decide +kernel
theorem dX3_restart_61 : decode cX3_restart 61 = .ok (.goto (-16), 3) := by decide +kernel
theorem dX3_restart_64 : decode cX3_restart 64 = .ok (.return_, 1) := by decide +kernel
theorem dX3_fail_0 : decode cX3_fail 0 = .ok (.aload_n 0, 1) := by decide +kernel
theorem dX3_fail_1 : decode cX3_fail 1 = .ok (.iload_n 1, 1) := by decide +kernel
theorem dX3_fail_2 : decode cX3_fail 2 = .ok (.putfield 46, 3) := by decide +kernel
theorem dX3_fail_5 : decode cX3_fail 5 = .ok (.aload_n 0, 1) := by decide +kernel
theorem dX3_fail_6 : decode cX3_fail 6 = .ok (.iload_n 2, 1) := by decide +kernel
theorem dX3_fail_7 : decode cX3_fail 7 = .ok (.putfield 18, 3) := by decide +kernel
theorem dX3_fail_10 : decode cX3_fail 10 = .ok (.return_, 1) := by decide +kernel
theorem dX3_skipBlanks_0 : decode cX3_skipBlanks 0 = .ok (.aload_n 0, 1) := by decide +kernel
theorem dX3_skipBlanks_1 : decode cX3_skipBlanks 1 = .ok (.getfield 49, 3) := by decide +kernel
theorem dX3_skipBlanks_4 : decode cX3_skipBlanks 4 = .ok (.aload_n 0, 1) := by decide +kernel
theorem dX3_skipBlanks_5 : decode cX3_skipBlanks 5 = .ok (.getfield 37, 3) := by decide +kernel
theorem dX3_skipBlanks_8 : decode cX3_skipBlanks 8 = .ok (.if_icmp .ge 30, 3) := by decide +kernel
theorem dX3_skipBlanks_11 : decode cX3_skipBlanks 11 = .ok (.aload_n 0, 1) := by decide +kernel
theorem dX3_skipBlanks_12 : decode cX3_skipBlanks 12 = .ok (.getfield 22, 3) := by decide +kernel
theorem dX3_skipBlanks_15 : decode cX3_skipBlanks 15 = .ok (.aload_n 0, 1) := by decide +kernel
theorem dX3_skipBlanks_16 : decode cX3_skipBlanks 16 = .ok (.getfield 49, 3) := by decide +kernel
theorem dX3_skipBlanks_19 : decode cX3_skipBlanks 19 = .ok (.baload, 1) := by decide +kernel
theorem dX3_skipBlanks_20 : decode cX3_skipBlanks 20 = .ok (.bipush 32, 2) := by decide +kernel
theorem dX3_skipBlanks_22 : decode cX3_skipBlanks 22 = .ok (.if_icmp .ne 16, 3) := by decide +kernel
theorem dX3_skipBlanks_25 : decode cX3_skipBlanks 25 = .ok (.aload_n 0, 1) := by decide +kernel
theorem dX3_skipBlanks_26 : decode cX3_skipBlanks 26 = .ok (.dup, 1) := by decide +kernel
theorem dX3_skipBlanks_27 : decode cX3_skipBlanks 27 = .ok (.getfield 49, 3) := by decide +kernel
theorem dX3_skipBlanks_30 : decode cX3_skipBlanks 30 = .ok (.iconst 1, 1) := by decide +kernel
theorem dX3_skipBlanks_31 : decode cX3_skipBlanks 31 = .ok (.iadd, 1) := by decide +kernel
theorem dX3_skipBlanks_32 : decode cX3_skipBlanks 32 = .ok (.putfield 49, 3) := by decide +kernel
theorem dX3_skipBlanks_35 : decode cX3_skipBlanks 35 = .ok (.goto (-35), 3) := by decide +kernel
theorem dX3_skipBlanks_38 : decode cX3_skipBlanks 38 = .ok (.return_, 1) := by decide +kernel
set_option maxRecDepth 20000 in
theorem ggX3_readStatement_X3_readKind : GoodIn wsX3_readStatement wsX3_readKind := goodIn_r _ [8, 1, 9, 10, 11, 12, 7, 13, 14, 15, 16, 17, 18, 19, 20, 21, 22, 23, 24, 25, 26, 27, 28, 29, 30, 31, 32, 33, 34, 35, 36, 37, 38, 39, 40, 41, 42, 43, 44, 45, 46, 47, 48, 49, 50, 51, 52, 53, 54, 55, 56, 57, 58, 59, 60, 61, 62, 63, 64, 65, 66, 143, 144, 145, 146, 147, 148, 149, 150, 151] (by decide +kernel) (by decide +kernel)
set_option maxRecDepth 20000 in
theorem gX3_readStatement_X3_readKind : GoodIn wsX3_readStatement (wsV RX3 58 RX3 yX3_readKind wsX3_readKind) := goodIn_app (goodIn_of _ (by decide +kernel)) ggX3_readStatement_X3_readKind
set_option maxRecDepth 20000 in
theorem ggX3_readStatement_X3_fail : GoodIn wsX3_readStatement wsX3_fail := goodIn_r _ [70, 3, 71, 143, 144, 145, 146, 147, 148, 149, 150, 151] (by decide +kernel) (by decide +kernel)
set_option maxRecDepth 20000 in
theorem gX3_readStatement_X3_fail : GoodIn wsX3_readStatement (wsV RX3 62 RX3 yX3_fail wsX3_fail) := goodIn_app (goodIn_of _ (by decide +kernel)) ggX3_readStatement_X3_fail
set_option maxRecDepth 20000 in
theorem ggX3_readStatement_X3_timesOf : GoodIn wsX3_readStatement wsX3_timesOf := goodIn_r _ [74] (by decide +kernel) (by decide +kernel)
set_option maxRecDepth 20000 in
theorem gX3_readStatement_X3_timesOf : GoodIn wsX3_readStatement (va_wsS RX3 66 yX3_timesOf wsX3_timesOf) := goodIn_app (goodIn_of _ (by decide +kernel)) ggX3_readStatement_X3_timesOf
set_option maxRecDepth 20000 in
theorem ggX3_readStatement_X3_partsOf : GoodIn wsX3_readStatement wsX3_partsOf := goodIn_r _ [77] (by decide +kernel) (by decide +kernel)
set_option maxRecDepth 20000 in
theorem gX3_readStatement_X3_partsOf : GoodIn wsX3_readStatement (va_wsS RX3 70 yX3_partsOf wsX3_partsOf) := goodIn_app (goodIn_of _ (by decide +kernel)) ggX3_readStatement_X3_partsOf
set_option maxRecDepth 20000 in
theorem ggX3_readStatement_X3_readNumber : GoodIn wsX3_readStatement wsX3_readNumber := goodIn_r _ [81, 1, 9, 10, 82, 83, 84, 85, 7, 86, 67, 68, 69, 70, 3, 71, 87, 88, 89, 90, 91, 92, 93, 94, 95, 96, 97, 98, 99, 100, 101, 102, 103, 104, 105, 106, 107, 108, 109, 110, 111, 112, 113, 114, 115, 143, 144, 145, 146, 147, 148, 149, 150, 151, 152, 153, 154, 155, 156, 157, 158, 159, 160, 161, 162, 163, 164, 165] (by decide +kernel) (by decide +kernel)
set_option maxRecDepth 20000 in
theorem gX3_readStatement_X3_readNumber : GoodIn wsX3_readStatement (wsV RX3 73 RX3 yX3_readNumber wsX3_readNumber) := goodIn_app (goodIn_of _ (by decide +kernel)) ggX3_readStatement_X3_readNumber
set_option maxRecDepth 20000 in
theorem ggX3_readStatement_X3_readEnd : GoodIn wsX3_readStatement wsX3_readEnd := goodIn_r _ [119, 1, 9, 10, 83, 84, 85, 7, 86, 67, 68, 69, 70, 3, 71, 143, 144, 145, 146, 147, 148, 149, 150, 151] (by decide +kernel) (by decide +kernel)
set_option maxRecDepth 20000 in
theorem gX3_readStatement_X3_readEnd : GoodIn wsX3_readStatement (wsV RX3 76 RX3 yX3_readEnd wsX3_readEnd) := goodIn_app (goodIn_of _ (by decide +kernel)) ggX3_readStatement_X3_readEnd
set_option maxRecDepth 20000 in
theorem ggX3_readStatement_X3_put : GoodIn wsX3_readStatement wsX3_put := goodIn_r _ [123, 101, 82, 102, 103, 108, 124, 109, 125, 126, 127, 128, 129, 113, 130, 131, 132, 133, 134, 110, 111, 112, 114, 115, 135, 136, 137, 138, 139, 140, 141, 142, 143, 144, 145, 146, 147, 148, 149, 150, 151, 152, 153, 154, 155, 156, 157, 158, 159, 160, 161, 162, 163, 164, 165] (by decide +kernel) (by decide +kernel)
set_option maxRecDepth 20000 in
theorem gX3_readStatement_X3_put : GoodIn wsX3_readStatement (wsV RX3 79 RX3 yX3_put wsX3_put) := goodIn_app (goodIn_of _ (by decide +kernel)) ggX3_readStatement_X3_put
theorem dX3_readStatement_0 : decode cX3_readStatement 0 = .ok (.aload_n 0, 1) := by decide +kernel
theorem dX3_readStatement_1 : decode cX3_readStatement 1 = .ok (.getfield 49, 3) := by decide +kernel
theorem dX3_readStatement_4 : decode cX3_readStatement 4 = .ok (.istore_n 1, 1) := by decide +kernel
theorem dX3_readStatement_5 : decode cX3_readStatement 5 = .ok (.aload_n 0, 1) := by decide +kernel
theorem dX3_readStatement_6 : decode cX3_readStatement 6 = .ok (.invokevirtual 58, 3) := by decide +kernel
theorem dX3_readStatement_9 : decode cX3_readStatement 9 = .ok (.istore_n 2, 1) := by decide +kernel
theorem dX3_readStatement_10 : decode cX3_readStatement 10 = .ok (.iload_n 2, 1) := by decide +kernel
theorem dX3_readStatement_11 : decode cX3_readStatement 11 = .ok (.iconst (-1), 1) := by decide +kernel
theorem dX3_readStatement_12 : decode cX3_readStatement 12 = .ok (.if_icmp .eq 16, 3) := by decide +kernel
theorem dX3_readStatement_15 : decode cX3_readStatement 15 = .ok (.iload_n 2, 1) := by decide +kernel
theorem dX3_readStatement_16 : decode cX3_readStatement 16 = .ok (.ifCond .eq 19, 3) := by decide +kernel
theorem dX3_readStatement_19 : decode cX3_readStatement 19 = .ok (.aload_n 0, 1) := by decide +kernel
theorem dX3_readStatement_20 : decode cX3_readStatement 20 = .ok (.getfield 30, 3) := by decide +kernel
theorem dX3_readStatement_23 : decode cX3_readStatement 23 = .ok (.iconst 0, 1) := by decide +kernel
theorem dX3_readStatement_24 : decode cX3_readStatement 24 = .ok (.iaload, 1) := by decide +kernel
theorem dX3_readStatement_25 : decode cX3_readStatement 25 = .ok (.ifCond .ne 10, 3) := by decide +kernel
theorem dX3_readStatement_28 : decode cX3_readStatement 28 = .ok (.aload_n 0, 1) := by decide +kernel
theorem dX3_readStatement_29 : decode cX3_readStatement 29 = .ok (.iconst 1, 1) := by decide +kernel
theorem dX3_readStatement_30 : decode cX3_readStatement 30 = .ok (.iload_n 1, 1) := by decide +kernel
theorem dX3_readStatement_31 : decode cX3_readStatement 31 = .ok (.invokevirtual 62, 3) := by decide +kernel
theorem dX3_readStatement_34 : decode cX3_readStatement 34 = .ok (.return_, 1) := by decide +kernel
theorem dX3_readStatement_35 : decode cX3_readStatement 35 = .ok (.aload_n 0, 1) := by decide +kernel
theorem dX3_readStatement_36 : decode cX3_readStatement 36 = .ok (.getfield 30, 3) := by decide +kernel
theorem dX3_readStatement_39 : decode cX3_readStatement 39 = .ok (.iload_n 2, 1) := by decide +kernel
theorem dX3_readStatement_40 : decode cX3_readStatement 40 = .ok (.iaload, 1) := by decide +kernel
theorem dX3_readStatement_41 : decode cX3_readStatement 41 = .ok (.iload_n 2, 1) := by decide +kernel
theorem dX3_readStatement_42 : decode cX3_readStatement 42 = .ok (.invokestatic 66, 3) := by decide +kernel
theorem dX3_readStatement_45 : decode cX3_readStatement 45 = .ok (.if_icmp .lt 10, 3) := by decide +kernel
theorem dX3_readStatement_48 : decode cX3_readStatement 48 = .ok (.aload_n 0, 1) := by decide +kernel
theorem dX3_readStatement_49 : decode cX3_readStatement 49 = .ok (.iconst 3, 1) := by decide +kernel
theorem dX3_readStatement_50 : decode cX3_readStatement 50 = .ok (.iload_n 1, 1) := by decide +kernel
theorem dX3_readStatement_51 : decode cX3_readStatement 51 = .ok (.invokevirtual 62, 3) := by decide +kernel
theorem dX3_readStatement_54 : decode cX3_readStatement 54 = .ok (.return_, 1) := by decide +kernel
theorem dX3_readStatement_55 : decode cX3_readStatement 55 = .ok (.aload_n 0, 1) := by decide +kernel
theorem dX3_readStatement_56 : decode cX3_readStatement 56 = .ok (.getfield 30, 3) := by decide +kernel
theorem dX3_readStatement_59 : decode cX3_readStatement 59 = .ok (.iload_n 2, 1) := by decide +kernel
theorem dX3_readStatement_60 : decode cX3_readStatement 60 = .ok (.dup2, 1) := by decide +kernel
theorem dX3_readStatement_61 : decode cX3_readStatement 61 = .ok (.iaload, 1) := by decide +kernel
theorem dX3_readStatement_62 : decode cX3_readStatement 62 = .ok (.iconst 1, 1) := by decide +kernel
theorem dX3_readStatement_63 : decode cX3_readStatement 63 = .ok (.iadd, 1) := by decide +kernel
theorem dX3_readStatement_64 : decode cX3_readStatement 64 = .ok (.iastore, 1) := by decide +kernel
theorem dX3_readStatement_65 : decode cX3_readStatement 65 = .ok (.iload_n 2, 1) := by decide +kernel
theorem dX3_readStatement_66 : decode cX3_readStatement 66 = .ok (.invokestatic 70, 3) := by decide +kernel
theorem dX3_readStatement_69 : decode cX3_readStatement 69 = .ok (.istore_n 3, 1) := by decide +kernel
theorem dX3_readStatement_70 : decode cX3_readStatement 70 = .ok (.iconst 0, 1) := by decide +kernel
theorem dX3_readStatement_71 : decode cX3_readStatement 71 = .ok (.istore 4, 2) := by decide +kernel
theorem dX3_readStatement_73 : decode cX3_readStatement 73 = .ok (.iload 4, 2) := by decide +kernel
theorem dX3_readStatement_75 : decode cX3_readStatement 75 = .ok (.iload_n 3, 1) := by decide +kernel
theorem dX3_readStatement_76 : decode cX3_readStatement 76 = .ok (.if_icmp .ge 23, 3) := by decide +kernel
theorem dX3_readStatement_79 : decode cX3_readStatement 79 = .ok (.aload_n 0, 1) := by decide +kernel
theorem dX3_readStatement_80 : decode cX3_readStatement 80 = .ok (.getfield 46, 3) := by decide +kernel
theorem dX3_readStatement_83 : decode cX3_readStatement 83 = .ok (.ifCond .ne 16, 3) := by decide +kernel
theorem dX3_readStatement_86 : decode cX3_readStatement 86 = .ok (.aload_n 0, 1) := by decide +kernel
theorem dX3_readStatement_87 : decode cX3_readStatement 87 = .ok (.iload_n 2, 1) := by decide +kernel
theorem dX3_readStatement_88 : decode cX3_readStatement 88 = .ok (.iload 4, 2) := by decide +kernel
theorem dX3_readStatement_90 : decode cX3_readStatement 90 = .ok (.invokevirtual 73, 3) := by decide +kernel
theorem dX3_readStatement_93 : decode cX3_readStatement 93 = .ok (.iinc 4 1, 3) := by decide +kernel
theorem dX3_readStatement_96 : decode cX3_readStatement 96 = .ok (.goto (-23), 3) := by decide +kernel
theorem dX3_readStatement_99 : decode cX3_readStatement 99 = .ok (.aload_n 0, 1) := by decide +kernel
theorem dX3_readStatement_100 : decode cX3_readStatement 100 = .ok (.getfield 46, 3) := by decide +kernel
theorem dX3_readStatement_103 : decode cX3_readStatement 103 = .ok (.ifCond .ne 7, 3) := by decide +kernel
theorem dX3_readStatement_106 : decode cX3_readStatement 106 = .ok (.aload_n 0, 1) := by decide +kernel
theorem dX3_readStatement_107 : decode cX3_readStatement 107 = .ok (.invokevirtual 76, 3) := by decide +kernel
theorem dX3_readStatement_110 : decode cX3_readStatement 110 = .ok (.aload_n 0, 1) := by decide +kernel
theorem dX3_readStatement_111 : decode cX3_readStatement 111 = .ok (.getfield 46, 3) := by decide +kernel
theorem dX3_readStatement_114 : decode cX3_readStatement 114 = .ok (.ifCond .ne 8, 3) := by decide +kernel
theorem dX3_readStatement_117 : decode cX3_readStatement 117 = .ok (.aload_n 0, 1) := by decide +kernel
theorem dX3_readStatement_118 : decode cX3_readStatement 118 = .ok (.iload_n 2, 1) := by decide +kernel
theorem dX3_readStatement_119 : decode cX3_readStatement 119 = .ok (.invokevirtual 79, 3) := by decide +kernel
theorem dX3_readStatement_122 : decode cX3_readStatement 122 = .ok (.return_, 1) := by decide +kernel
set_option maxRecDepth 20000 in
theorem ggX3_readKind_X3_wordOf : GoodIn wsX3_readKind wsX3_wordOf := goodIn_r _ [7] (by decide +kernel) (by decide +kernel)
set_option maxRecDepth 20000 in
theorem gX3_readKind_X3_wordOf : GoodIn wsX3_readKind (va_wsS RX3 83 yX3_wordOf wsX3_wordOf) := goodIn_app (goodIn_of _ (by decide +kernel)) ggX3_readKind_X3_wordOf
set_option maxRecDepth 20000 in
theorem ggX3_readKind_X3_isWord : GoodIn wsX3_readKind wsX3_isWord := goodIn_r _ [11, 3, 12, 13, 14, 15, 16, 17, 18, 19, 20, 21, 22, 23, 24, 25, 26, 27, 28, 29, 30, 31, 32, 33, 34, 35, 36, 37, 38, 39, 40, 41, 42, 43, 44, 45, 46, 47, 48, 49, 50, 51, 52, 53, 54, 55, 56, 57, 58, 59, 60, 61, 62, 63, 64, 65, 66, 67, 68, 69] (by decide +kernel) (by decide +kernel)
set_option maxRecDepth 20000 in
theorem gX3_readKind_X3_isWord : GoodIn wsX3_readKind (wsV RX3 87 RX3 yX3_isWord wsX3_isWord) := goodIn_app (goodIn_of _ (by decide +kernel)) ggX3_readKind_X3_isWord
theorem dX3_readKind_0 : decode cX3_readKind 0 = .ok (.aload_n 0, 1) := by decide +kernel
theorem dX3_readKind_1 : decode cX3_readKind 1 = .ok (.getfield 49, 3) := by decide +kernel
theorem dX3_readKind_4 : decode cX3_readKind 4 = .ok (.istore_n 1, 1) := by decide +kernel
theorem dX3_readKind_5 : decode cX3_readKind 5 = .ok (.aload_n 0, 1) := by decide +kernel
theorem dX3_readKind_6 : decode cX3_readKind 6 = .ok (.getfield 49, 3) := by decide +kernel
theorem dX3_readKind_9 : decode cX3_readKind 9 = .ok (.aload_n 0, 1) := by decide +kernel
theorem dX3_readKind_10 : decode cX3_readKind 10 = .ok (.getfield 37, 3) := by decide +kernel
theorem dX3_readKind_13 : decode cX3_readKind 13 = .ok (.if_icmp .ge 44, 3) := by decide +kernel
theorem dX3_readKind_16 : decode cX3_readKind 16 = .ok (.aload_n 0, 1) := by decide +kernel
theorem dX3_readKind_17 : decode cX3_readKind 17 = .ok (.getfield 22, 3) := by decide +kernel
theorem dX3_readKind_20 : decode cX3_readKind 20 = .ok (.aload_n 0, 1) := by decide +kernel
theorem dX3_readKind_21 : decode cX3_readKind 21 = .ok (.getfield 49, 3) := by decide +kernel
theorem dX3_readKind_24 : decode cX3_readKind 24 = .ok (.baload, 1) := by decide +kernel
theorem dX3_readKind_25 : decode cX3_readKind 25 = .ok (.bipush 97, 2) := by decide +kernel
theorem dX3_readKind_27 : decode cX3_readKind 27 = .ok (.if_icmp .lt 30, 3) := by decide +kernel
theorem dX3_readKind_30 : decode cX3_readKind 30 = .ok (.aload_n 0, 1) := by decide +kernel
theorem dX3_readKind_31 : decode cX3_readKind 31 = .ok (.getfield 22, 3) := by decide +kernel
theorem dX3_readKind_34 : decode cX3_readKind 34 = .ok (.aload_n 0, 1) := by decide +kernel
theorem dX3_readKind_35 : decode cX3_readKind 35 = .ok (.getfield 49, 3) := by decide +kernel
theorem dX3_readKind_38 : decode cX3_readKind 38 = .ok (.baload, 1) := by decide +kernel
theorem dX3_readKind_39 : decode cX3_readKind 39 = .ok (.bipush 122, 2) := by decide +kernel
theorem dX3_readKind_41 : decode cX3_readKind 41 = .ok (.if_icmp .gt 16, 3) := by decide +kernel
theorem dX3_readKind_44 : decode cX3_readKind 44 = .ok (.aload_n 0, 1) := by decide +kernel
theorem dX3_readKind_45 : decode cX3_readKind 45 = .ok (.dup, 1) := by decide +kernel
theorem dX3_readKind_46 : decode cX3_readKind 46 = .ok (.getfield 49, 3) := by decide +kernel
theorem dX3_readKind_49 : decode cX3_readKind 49 = .ok (.iconst 1, 1) := by decide +kernel
theorem dX3_readKind_50 : decode cX3_readKind 50 = .ok (.iadd, 1) := by decide +kernel
theorem dX3_readKind_51 : decode cX3_readKind 51 = .ok (.putfield 49, 3) := by decide +kernel
theorem dX3_readKind_54 : decode cX3_readKind 54 = .ok (.goto (-49), 3) := by decide +kernel
theorem dX3_readKind_57 : decode cX3_readKind 57 = .ok (.iconst 0, 1) := by decide +kernel
theorem dX3_readKind_58 : decode cX3_readKind 58 = .ok (.istore_n 2, 1) := by decide +kernel
theorem dX3_readKind_59 : decode cX3_readKind 59 = .ok (.iload_n 2, 1) := by decide +kernel
theorem dX3_readKind_60 : decode cX3_readKind 60 = .ok (.bipush 6, 2) := by decide +kernel
theorem dX3_readKind_62 : decode cX3_readKind 62 = .ok (.if_icmp .ge 27, 3) := by decide +kernel
theorem dX3_readKind_65 : decode cX3_readKind 65 = .ok (.aload_n 0, 1) := by decide +kernel
theorem dX3_readKind_66 : decode cX3_readKind 66 = .ok (.iload_n 1, 1) := by decide +kernel
theorem dX3_readKind_67 : decode cX3_readKind 67 = .ok (.aload_n 0, 1) := by decide +kernel
theorem dX3_readKind_68 : decode cX3_readKind 68 = .ok (.getfield 49, 3) := by decide +kernel
theorem dX3_readKind_71 : decode cX3_readKind 71 = .ok (.iload_n 2, 1) := by decide +kernel
theorem dX3_readKind_72 : decode cX3_readKind 72 = .ok (.invokestatic 83, 3) := by decide +kernel
theorem dX3_readKind_75 : decode cX3_readKind 75 = .ok (.invokevirtual 87, 3) := by decide +kernel
theorem dX3_readKind_78 : decode cX3_readKind 78 = .ok (.ifCond .eq 5, 3) := by decide +kernel
theorem dX3_readKind_81 : decode cX3_readKind 81 = .ok (.iload_n 2, 1) := by decide +kernel
theorem dX3_readKind_82 : decode cX3_readKind 82 = .ok (.ireturn, 1) := by decide +kernel
theorem dX3_readKind_83 : decode cX3_readKind 83 = .ok (.iinc 2 1, 3) := by decide +kernel
theorem dX3_readKind_86 : decode cX3_readKind 86 = .ok (.goto (-27), 3) := by decide +kernel
theorem dX3_readKind_89 : decode cX3_readKind 89 = .ok (.iconst (-1), 1) := by decide +kernel
theorem dX3_readKind_90 : decode cX3_readKind 90 = .ok (.ireturn, 1) := by decide +kernel
set_option maxRecDepth 20000 in
theorem ggX3_isWord_J0_length_8abf5 : GoodIn wsX3_isWord wsJ0_length_8abf5 := goodIn_r _ [6, 7, 8, 9, 10, 5, 11, 12, 13] (by decide +kernel) (by decide +kernel)
set_option maxRecDepth 20000 in
theorem gX3_isWord_J0_length_8abf5 : GoodIn wsX3_isWord (wsV RX3 91 RJ0 yJ0_length_8abf5 wsJ0_length_8abf5) := goodIn_app (goodIn_of _ (by decide +kernel)) ggX3_isWord_J0_length_8abf5
set_option maxRecDepth 20000 in
theorem ggX3_isWord_J0_charAt_5068e : GoodIn wsX3_isWord wsJ0_charAt_5068e := goodIn_r _ [17, 7, 18, 19, 20, 5, 21, 12, 13, 22, 23, 24, 25, 26, 27, 28, 29, 30, 31, 32, 33, 34, 35, 36, 37, 38, 39, 40, 41, 42, 43, 44, 45, 46, 47, 48, 49, 50] (by decide +kernel) (by decide +kernel)
set_option maxRecDepth 20000 in
theorem gX3_isWord_J0_charAt_5068e : GoodIn wsX3_isWord (wsV RX3 95 RJ0 yJ0_charAt_5068e wsJ0_charAt_5068e) := goodIn_app (goodIn_of _ (by decide +kernel)) ggX3_isWord_J0_charAt_5068e
theorem dX3_isWord_0 : decode cX3_isWord 0 = .ok (.iload_n 2, 1) := by decide +kernel
theorem dX3_isWord_1 : decode cX3_isWord 1 = .ok (.iload_n 1, 1) := by decide +kernel
theorem dX3_isWord_2 : decode cX3_isWord 2 = .ok (.isub, 1) := by decide +kernel
theorem dX3_isWord_3 : decode cX3_isWord 3 = .ok (.aload_n 3, 1) := by decide +kernel
theorem dX3_isWord_4 : decode cX3_isWord 4 = .ok (.invokevirtual 91, 3) := by decide +kernel
theorem dX3_isWord_7 : decode cX3_isWord 7 = .ok (.if_icmp .eq 5, 3) := by decide +kernel
theorem dX3_isWord_10 : decode cX3_isWord 10 = .ok (.iconst 0, 1) := by decide +kernel
theorem dX3_isWord_11 : decode cX3_isWord 11 = .ok (.ireturn, 1) := by decide +kernel
theorem dX3_isWord_12 : decode cX3_isWord 12 = .ok (.iconst 0, 1) := by decide +kernel
theorem dX3_isWord_13 : decode cX3_isWord 13 = .ok (.istore 4, 2) := by decide +kernel
theorem dX3_isWord_15 : decode cX3_isWord 15 = .ok (.iload 4, 2) := by decide +kernel
theorem dX3_isWord_17 : decode cX3_isWord 17 = .ok (.aload_n 3, 1) := by decide +kernel
theorem dX3_isWord_18 : decode cX3_isWord 18 = .ok (.invokevirtual 91, 3) := by decide +kernel
theorem dX3_isWord_21 : decode cX3_isWord 21 = .ok (.if_icmp .ge 29, 3) := by decide +kernel
theorem dX3_isWord_24 : decode cX3_isWord 24 = .ok (.aload_n 0, 1) := by decide +kernel
theorem dX3_isWord_25 : decode cX3_isWord 25 = .ok (.getfield 22, 3) := by decide +kernel
theorem dX3_isWord_28 : decode cX3_isWord 28 = .ok (.iload_n 1, 1) := by decide +kernel
theorem dX3_isWord_29 : decode cX3_isWord 29 = .ok (.iload 4, 2) := by decide +kernel
theorem dX3_isWord_31 : decode cX3_isWord 31 = .ok (.iadd, 1) := by decide +kernel
theorem dX3_isWord_32 : decode cX3_isWord 32 = .ok (.baload, 1) := by decide +kernel
theorem dX3_isWord_33 : decode cX3_isWord 33 = .ok (.aload_n 3, 1) := by decide +kernel
theorem dX3_isWord_34 : decode cX3_isWord 34 = .ok (.iload 4, 2) := by decide +kernel
theorem dX3_isWord_36 : decode cX3_isWord 36 = .ok (.invokevirtual 95, 3) := by decide +kernel
theorem dX3_isWord_39 : decode cX3_isWord 39 = .ok (.if_icmp .eq 5, 3) := by decide +kernel
theorem dX3_isWord_42 : decode cX3_isWord 42 = .ok (.iconst 0, 1) := by decide +kernel
theorem dX3_isWord_43 : decode cX3_isWord 43 = .ok (.ireturn, 1) := by decide +kernel
theorem dX3_isWord_44 : decode cX3_isWord 44 = .ok (.iinc 4 1, 3) := by decide +kernel
theorem dX3_isWord_47 : decode cX3_isWord 47 = .ok (.goto (-32), 3) := by decide +kernel
theorem dX3_isWord_50 : decode cX3_isWord 50 = .ok (.iconst 1, 1) := by decide +kernel
theorem dX3_isWord_51 : decode cX3_isWord 51 = .ok (.ireturn, 1) := by decide +kernel
set_option maxRecDepth 20000 in
theorem ggX3_readNumber_X3_skipBlanks : GoodIn wsX3_readNumber wsX3_skipBlanks := goodIn_r _ [9, 1, 2, 3, 45, 46, 47, 48, 49, 50, 51, 52, 53] (by decide +kernel) (by decide +kernel)
set_option maxRecDepth 20000 in
theorem gX3_readNumber_X3_skipBlanks : GoodIn wsX3_readNumber (wsV RX3 43 RX3 yX3_skipBlanks wsX3_skipBlanks) := goodIn_app (goodIn_of _ (by decide +kernel)) ggX3_readNumber_X3_skipBlanks
set_option maxRecDepth 20000 in
theorem ggX3_readNumber_X3_fail : GoodIn wsX3_readNumber wsX3_fail := goodIn_r _ [13, 14, 15, 45, 46, 47, 48, 49, 50, 51, 52, 53] (by decide +kernel) (by decide +kernel)
set_option maxRecDepth 20000 in
theorem gX3_readNumber_X3_fail : GoodIn wsX3_readNumber (wsV RX3 62 RX3 yX3_fail wsX3_fail) := goodIn_app (goodIn_of _ (by decide +kernel)) ggX3_readNumber_X3_fail
set_option maxRecDepth 20000 in
theorem ggX3_readNumber_X3_leastOf : GoodIn wsX3_readNumber wsX3_leastOf := goodIn_r _ [18] (by decide +kernel) (by decide +kernel)
set_option maxRecDepth 20000 in
theorem gX3_readNumber_X3_leastOf : GoodIn wsX3_readNumber (va_wsS RX3 99 yX3_leastOf wsX3_leastOf) := goodIn_app (goodIn_of _ (by decide +kernel)) ggX3_readNumber_X3_leastOf
set_option maxRecDepth 20000 in
theorem ggX3_readNumber_X3_mostOf : GoodIn wsX3_readNumber wsX3_mostOf := goodIn_r _ [22, 4, 23, 24, 25, 26, 27, 28, 29, 30, 31, 32, 45, 46, 47, 48, 49, 50, 51, 52, 53, 54, 55, 56, 57, 58, 59, 60, 61, 62, 63, 64, 65, 66, 67] (by decide +kernel) (by decide +kernel)
set_option maxRecDepth 20000 in
theorem gX3_readNumber_X3_mostOf : GoodIn wsX3_readNumber (wsV RX3 103 RX3 yX3_mostOf wsX3_mostOf) := goodIn_app (goodIn_of _ (by decide +kernel)) ggX3_readNumber_X3_mostOf
set_option maxRecDepth 20000 in
theorem ggX3_readNumber_X3_clashes : GoodIn wsX3_readNumber wsX3_clashes := goodIn_r _ [36, 30, 37, 4, 38, 39, 40, 41, 42, 43, 44, 45, 46, 47, 48, 49, 50, 51, 52, 53, 54, 55, 56, 57, 58, 59, 60, 61, 62, 63, 64, 65, 66, 67] (by decide +kernel) (by decide +kernel)
set_option maxRecDepth 20000 in
theorem gX3_readNumber_X3_clashes : GoodIn wsX3_readNumber (wsV RX3 106 RX3 yX3_clashes wsX3_clashes) := goodIn_app (goodIn_of _ (by decide +kernel)) ggX3_readNumber_X3_clashes
theorem dX3_readNumber_0 : decode cX3_readNumber 0 = .ok (.aload_n 0, 1) := by decide +kernel
theorem dX3_readNumber_1 : decode cX3_readNumber 1 = .ok (.invokevirtual 43, 3) := by decide +kernel
theorem dX3_readNumber_4 : decode cX3_readNumber 4 = .ok (.aload_n 0, 1) := by decide +kernel
theorem dX3_readNumber_5 : decode cX3_readNumber 5 = .ok (.getfield 49, 3) := by decide +kernel
theorem dX3_readNumber_8 : decode cX3_readNumber 8 = .ok (.istore_n 3, 1) := by decide +kernel
theorem dX3_readNumber_9 : decode cX3_readNumber 9 = .ok (.iconst 0, 1) := by decide +kernel
theorem dX3_readNumber_10 : decode cX3_readNumber 10 = .ok (.istore 4, 2) := by decide +kernel
theorem dX3_readNumber_12 : decode cX3_readNumber 12 = .ok (.aload_n 0, 1) := by decide +kernel
theorem dX3_readNumber_13 : decode cX3_readNumber 13 = .ok (.getfield 49, 3) := by decide +kernel
theorem dX3_readNumber_16 : decode cX3_readNumber 16 = .ok (.aload_n 0, 1) := by decide +kernel
theorem dX3_readNumber_17 : decode cX3_readNumber 17 = .ok (.getfield 37, 3) := by decide +kernel
theorem dX3_readNumber_20 : decode cX3_readNumber 20 = .ok (.if_icmp .ge 74, 3) := by decide +kernel
theorem dX3_readNumber_23 : decode cX3_readNumber 23 = .ok (.aload_n 0, 1) := by decide +kernel
theorem dX3_readNumber_24 : decode cX3_readNumber 24 = .ok (.getfield 22, 3) := by decide +kernel
theorem dX3_readNumber_27 : decode cX3_readNumber 27 = .ok (.aload_n 0, 1) := by decide +kernel
theorem dX3_readNumber_28 : decode cX3_readNumber 28 = .ok (.getfield 49, 3) := by decide +kernel
theorem dX3_readNumber_31 : decode cX3_readNumber 31 = .ok (.baload, 1) := by decide +kernel
theorem dX3_readNumber_32 : decode cX3_readNumber 32 = .ok (.bipush 48, 2) := by decide +kernel
theorem dX3_readNumber_34 : decode cX3_readNumber 34 = .ok (.if_icmp .lt 60, 3) := by decide +kernel
theorem dX3_readNumber_37 : decode cX3_readNumber 37 = .ok (.aload_n 0, 1) := by decide +kernel
theorem dX3_readNumber_38 : decode cX3_readNumber 38 = .ok (.getfield 22, 3) := by decide +kernel
theorem dX3_readNumber_41 : decode cX3_readNumber 41 = .ok (.aload_n 0, 1) := by decide +kernel
theorem dX3_readNumber_42 : decode cX3_readNumber 42 = .ok (.getfield 49, 3) := by decide +kernel
theorem dX3_readNumber_45 : decode cX3_readNumber 45 = .ok (.baload, 1) := by decide +kernel
theorem dX3_readNumber_46 : decode cX3_readNumber 46 = .ok (.bipush 57, 2) := by decide +kernel
theorem dX3_readNumber_48 : decode cX3_readNumber 48 = .ok (.if_icmp .gt 46, 3) := by decide +kernel
theorem dX3_readNumber_51 : decode cX3_readNumber 51 = .ok (.aload_n 0, 1) := by decide +kernel
theorem dX3_readNumber_52 : decode cX3_readNumber 52 = .ok (.getfield 49, 3) := by decide +kernel
theorem dX3_readNumber_55 : decode cX3_readNumber 55 = .ok (.iload_n 3, 1) := by decide +kernel
theorem dX3_readNumber_56 : decode cX3_readNumber 56 = .ok (.isub, 1) := by decide +kernel
theorem dX3_readNumber_57 : decode cX3_readNumber 57 = .ok (.iconst 3, 1) := by decide +kernel
theorem dX3_readNumber_58 : decode cX3_readNumber 58 = .ok (.if_icmp .ge 23, 3) := by decide +kernel
theorem dX3_readNumber_61 : decode cX3_readNumber 61 = .ok (.iload 4, 2) := by decide +kernel
theorem dX3_readNumber_63 : decode cX3_readNumber 63 = .ok (.bipush 10, 2) := by decide +kernel
theorem dX3_readNumber_65 : decode cX3_readNumber 65 = .ok (.imul, 1) := by decide +kernel
theorem dX3_readNumber_66 : decode cX3_readNumber 66 = .ok (.aload_n 0, 1) := by decide +kernel
theorem dX3_readNumber_67 : decode cX3_readNumber 67 = .ok (.getfield 22, 3) := by decide +kernel
theorem dX3_readNumber_70 : decode cX3_readNumber 70 = .ok (.aload_n 0, 1) := by decide +kernel
theorem dX3_readNumber_71 : decode cX3_readNumber 71 = .ok (.getfield 49, 3) := by decide +kernel
theorem dX3_readNumber_74 : decode cX3_readNumber 74 = .ok (.baload, 1) := by decide +kernel
theorem dX3_readNumber_75 : decode cX3_readNumber 75 = .ok (.iadd, 1) := by decide +kernel
theorem dX3_readNumber_76 : decode cX3_readNumber 76 = .ok (.bipush 48, 2) := by decide +kernel
theorem dX3_readNumber_78 : decode cX3_readNumber 78 = .ok (.isub, 1) := by decide +kernel
theorem dX3_readNumber_79 : decode cX3_readNumber 79 = .ok (.istore 4, 2) := by decide +kernel
theorem dX3_readNumber_81 : decode cX3_readNumber 81 = .ok (.aload_n 0, 1) := by decide +kernel
theorem dX3_readNumber_82 : decode cX3_readNumber 82 = .ok (.dup, 1) := by decide +kernel
theorem dX3_readNumber_83 : decode cX3_readNumber 83 = .ok (.getfield 49, 3) := by decide +kernel
theorem dX3_readNumber_86 : decode cX3_readNumber 86 = .ok (.iconst 1, 1) := by decide +kernel
theorem dX3_readNumber_87 : decode cX3_readNumber 87 = .ok (.iadd, 1) := by decide +kernel
theorem dX3_readNumber_88 : decode cX3_readNumber 88 = .ok (.putfield 49, 3) := by decide +kernel
theorem dX3_readNumber_91 : decode cX3_readNumber 91 = .ok (.goto (-79), 3) := by decide +kernel
theorem dX3_readNumber_94 : decode cX3_readNumber 94 = .ok (.aload_n 0, 1) := by decide +kernel
theorem dX3_readNumber_95 : decode cX3_readNumber 95 = .ok (.getfield 49, 3) := by decide +kernel
theorem dX3_readNumber_98 : decode cX3_readNumber 98 = .ok (.iload_n 3, 1) := by decide +kernel
theorem dX3_readNumber_99 : decode cX3_readNumber 99 = .ok (.if_icmp .ne 12, 3) := by decide +kernel
theorem dX3_readNumber_102 : decode cX3_readNumber 102 = .ok (.aload_n 0, 1) := by decide +kernel
theorem dX3_readNumber_103 : decode cX3_readNumber 103 = .ok (.iconst 1, 1) := by decide +kernel
theorem dX3_readNumber_104 : decode cX3_readNumber 104 = .ok (.iload_n 3, 1) := by decide +kernel
theorem dX3_readNumber_105 : decode cX3_readNumber 105 = .ok (.invokevirtual 62, 3) := by decide +kernel
theorem dX3_readNumber_108 : decode cX3_readNumber 108 = .ok (.goto 71, 3) := by decide +kernel
theorem dX3_readNumber_111 : decode cX3_readNumber 111 = .ok (.aload_n 0, 1) := by decide +kernel
theorem dX3_readNumber_112 : decode cX3_readNumber 112 = .ok (.getfield 49, 3) := by decide +kernel
theorem dX3_readNumber_115 : decode cX3_readNumber 115 = .ok (.iload_n 3, 1) := by decide +kernel
theorem dX3_readNumber_116 : decode cX3_readNumber 116 = .ok (.isub, 1) := by decide +kernel
theorem dX3_readNumber_117 : decode cX3_readNumber 117 = .ok (.iconst 3, 1) := by decide +kernel
theorem dX3_readNumber_118 : decode cX3_readNumber 118 = .ok (.if_icmp .gt 24, 3) := by decide +kernel
theorem dX3_readNumber_121 : decode cX3_readNumber 121 = .ok (.iload 4, 2) := by decide +kernel
theorem dX3_readNumber_123 : decode cX3_readNumber 123 = .ok (.iload_n 1, 1) := by decide +kernel
theorem dX3_readNumber_124 : decode cX3_readNumber 124 = .ok (.iload_n 2, 1) := by decide +kernel
theorem dX3_readNumber_125 : decode cX3_readNumber 125 = .ok (.invokestatic 99, 3) := by decide +kernel
theorem dX3_readNumber_128 : decode cX3_readNumber 128 = .ok (.if_icmp .lt 14, 3) := by decide +kernel
theorem dX3_readNumber_131 : decode cX3_readNumber 131 = .ok (.iload 4, 2) := by decide +kernel
theorem dX3_readNumber_133 : decode cX3_readNumber 133 = .ok (.aload_n 0, 1) := by decide +kernel
theorem dX3_readNumber_134 : decode cX3_readNumber 134 = .ok (.iload_n 1, 1) := by decide +kernel
theorem dX3_readNumber_135 : decode cX3_readNumber 135 = .ok (.iload_n 2, 1) := by decide +kernel
theorem dX3_readNumber_136 : decode cX3_readNumber 136 = .ok (.invokevirtual 103, 3) := by decide +kernel
theorem dX3_readNumber_139 : decode cX3_readNumber 139 = .ok (.if_icmp .le 12, 3) := by decide +kernel
theorem dX3_readNumber_142 : decode cX3_readNumber 142 = .ok (.aload_n 0, 1) := by decide +kernel
theorem dX3_readNumber_143 : decode cX3_readNumber 143 = .ok (.iconst 2, 1) := by decide +kernel
theorem dX3_readNumber_144 : decode cX3_readNumber 144 = .ok (.iload_n 3, 1) := by decide +kernel
theorem dX3_readNumber_145 : decode cX3_readNumber 145 = .ok (.invokevirtual 62, 3) := by decide +kernel
theorem dX3_readNumber_148 : decode cX3_readNumber 148 = .ok (.goto 31, 3) := by decide +kernel
theorem dX3_readNumber_151 : decode cX3_readNumber 151 = .ok (.aload_n 0, 1) := by decide +kernel
theorem dX3_readNumber_152 : decode cX3_readNumber 152 = .ok (.iload_n 1, 1) := by decide +kernel
theorem dX3_readNumber_153 : decode cX3_readNumber 153 = .ok (.iload_n 2, 1) := by decide +kernel
theorem dX3_readNumber_154 : decode cX3_readNumber 154 = .ok (.iload 4, 2) := by decide +kernel
theorem dX3_readNumber_156 : decode cX3_readNumber 156 = .ok (.invokevirtual 106, 3) := by decide +kernel
theorem dX3_readNumber_159 : decode cX3_readNumber 159 = .ok (.ifCond .eq 12, 3) := by decide +kernel
theorem dX3_readNumber_162 : decode cX3_readNumber 162 = .ok (.aload_n 0, 1) := by decide +kernel
theorem dX3_readNumber_163 : decode cX3_readNumber 163 = .ok (.iconst 4, 1) := by decide +kernel
theorem dX3_readNumber_164 : decode cX3_readNumber 164 = .ok (.iload_n 3, 1) := by decide +kernel
theorem dX3_readNumber_165 : decode cX3_readNumber 165 = .ok (.invokevirtual 62, 3) := by decide +kernel
theorem dX3_readNumber_168 : decode cX3_readNumber 168 = .ok (.goto 11, 3) := by decide +kernel
theorem dX3_readNumber_171 : decode cX3_readNumber 171 = .ok (.aload_n 0, 1) := by decide +kernel
theorem dX3_readNumber_172 : decode cX3_readNumber 172 = .ok (.getfield 26, 3) := by decide +kernel
theorem dX3_readNumber_175 : decode cX3_readNumber 175 = .ok (.iload_n 2, 1) := by decide +kernel
theorem dX3_readNumber_176 : decode cX3_readNumber 176 = .ok (.iload 4, 2) := by decide +kernel
theorem dX3_readNumber_178 : decode cX3_readNumber 178 = .ok (.iastore, 1) := by decide +kernel
theorem dX3_readNumber_179 : decode cX3_readNumber 179 = .ok (.return_, 1) := by decide +kernel
set_option maxRecDepth 20000 in
theorem ggX3_readEnd_X3_skipBlanks : GoodIn wsX3_readEnd wsX3_skipBlanks := goodIn_r _ [8, 1, 2, 3, 15, 16, 17, 18, 19, 20, 21, 22, 23] (by decide +kernel) (by decide +kernel)
set_option maxRecDepth 20000 in
theorem gX3_readEnd_X3_skipBlanks : GoodIn wsX3_readEnd (wsV RX3 43 RX3 yX3_skipBlanks wsX3_skipBlanks) := goodIn_app (goodIn_of _ (by decide +kernel)) ggX3_readEnd_X3_skipBlanks
set_option maxRecDepth 20000 in
theorem ggX3_readEnd_X3_fail : GoodIn wsX3_readEnd wsX3_fail := goodIn_r _ [12, 13, 14, 15, 16, 17, 18, 19, 20, 21, 22, 23] (by decide +kernel) (by decide +kernel)
set_option maxRecDepth 20000 in
theorem gX3_readEnd_X3_fail : GoodIn wsX3_readEnd (wsV RX3 62 RX3 yX3_fail wsX3_fail) := goodIn_app (goodIn_of _ (by decide +kernel)) ggX3_readEnd_X3_fail
theorem dX3_readEnd_0 : decode cX3_readEnd 0 = .ok (.aload_n 0, 1) := by decide +kernel
theorem dX3_readEnd_1 : decode cX3_readEnd 1 = .ok (.invokevirtual 43, 3) := by decide +kernel
theorem dX3_readEnd_4 : decode cX3_readEnd 4 = .ok (.aload_n 0, 1) := by decide +kernel
theorem dX3_readEnd_5 : decode cX3_readEnd 5 = .ok (.getfield 49, 3) := by decide +kernel
theorem dX3_readEnd_8 : decode cX3_readEnd 8 = .ok (.aload_n 0, 1) := by decide +kernel
theorem dX3_readEnd_9 : decode cX3_readEnd 9 = .ok (.getfield 37, 3) := by decide +kernel
theorem dX3_readEnd_12 : decode cX3_readEnd 12 = .ok (.if_icmp .ge 30, 3) := by decide +kernel
theorem dX3_readEnd_15 : decode cX3_readEnd 15 = .ok (.aload_n 0, 1) := by decide +kernel
theorem dX3_readEnd_16 : decode cX3_readEnd 16 = .ok (.getfield 22, 3) := by decide +kernel
theorem dX3_readEnd_19 : decode cX3_readEnd 19 = .ok (.aload_n 0, 1) := by decide +kernel
theorem dX3_readEnd_20 : decode cX3_readEnd 20 = .ok (.getfield 49, 3) := by decide +kernel
theorem dX3_readEnd_23 : decode cX3_readEnd 23 = .ok (.baload, 1) := by decide +kernel
theorem dX3_readEnd_24 : decode cX3_readEnd 24 = .ok (.bipush 59, 2) := by decide +kernel
theorem dX3_readEnd_26 : decode cX3_readEnd 26 = .ok (.if_icmp .ne 16, 3) := by decide +kernel
theorem dX3_readEnd_29 : decode cX3_readEnd 29 = .ok (.aload_n 0, 1) := by decide +kernel
theorem dX3_readEnd_30 : decode cX3_readEnd 30 = .ok (.dup, 1) := by decide +kernel
theorem dX3_readEnd_31 : decode cX3_readEnd 31 = .ok (.getfield 49, 3) := by decide +kernel
theorem dX3_readEnd_34 : decode cX3_readEnd 34 = .ok (.iconst 1, 1) := by decide +kernel
theorem dX3_readEnd_35 : decode cX3_readEnd 35 = .ok (.iadd, 1) := by decide +kernel
theorem dX3_readEnd_36 : decode cX3_readEnd 36 = .ok (.putfield 49, 3) := by decide +kernel
theorem dX3_readEnd_39 : decode cX3_readEnd 39 = .ok (.goto 12, 3) := by decide +kernel
theorem dX3_readEnd_42 : decode cX3_readEnd 42 = .ok (.aload_n 0, 1) := by decide +kernel
theorem dX3_readEnd_43 : decode cX3_readEnd 43 = .ok (.iconst 1, 1) := by decide +kernel
theorem dX3_readEnd_44 : decode cX3_readEnd 44 = .ok (.aload_n 0, 1) := by decide +kernel
theorem dX3_readEnd_45 : decode cX3_readEnd 45 = .ok (.getfield 49, 3) := by decide +kernel
theorem dX3_readEnd_48 : decode cX3_readEnd 48 = .ok (.invokevirtual 62, 3) := by decide +kernel
theorem dX3_readEnd_51 : decode cX3_readEnd 51 = .ok (.return_, 1) := by decide +kernel
set_option maxRecDepth 20000 in
theorem ggX3_clashes_X2_numberOf : GoodIn wsX3_clashes wsX2_numberOf := goodIn_r _ [9, 10, 20, 21, 22, 23, 24, 25, 26, 27, 28, 29, 30, 31, 32, 33] (by decide +kernel) (by decide +kernel)
set_option maxRecDepth 20000 in
theorem gX3_clashes_X2_numberOf : GoodIn wsX3_clashes (wsV RX3 113 RX2 yX2_numberOf wsX2_numberOf) := goodIn_app (goodIn_of _ (by decide +kernel)) ggX3_clashes_X2_numberOf
theorem dX3_clashes_0 : decode cX3_clashes 0 = .ok (.iload_n 2, 1) := by decide +kernel
theorem dX3_clashes_1 : decode cX3_clashes 1 = .ok (.iconst 1, 1) := by decide +kernel
theorem dX3_clashes_2 : decode cX3_clashes 2 = .ok (.if_icmp .eq 5, 3) := by decide +kernel
theorem dX3_clashes_5 : decode cX3_clashes 5 = .ok (.iconst 0, 1) := by decide +kernel
theorem dX3_clashes_6 : decode cX3_clashes 6 = .ok (.ireturn, 1) := by decide +kernel
theorem dX3_clashes_7 : decode cX3_clashes 7 = .ok (.iload_n 1, 1) := by decide +kernel
theorem dX3_clashes_8 : decode cX3_clashes 8 = .ok (.tableswitch 95 2 4 #[28, 59, 79], 28) := by decide +kernel
theorem dX3_clashes_36 : decode cX3_clashes 36 = .ok (.aload_n 0, 1) := by decide +kernel
theorem dX3_clashes_37 : decode cX3_clashes 37 = .ok (.getfield 12, 3) := by decide +kernel
theorem dX3_clashes_40 : decode cX3_clashes 40 = .ok (.getfield 110, 3) := by decide +kernel
theorem dX3_clashes_43 : decode cX3_clashes 43 = .ok (.aload_n 0, 1) := by decide +kernel
theorem dX3_clashes_44 : decode cX3_clashes 44 = .ok (.getfield 12, 3) := by decide +kernel
theorem dX3_clashes_47 : decode cX3_clashes 47 = .ok (.aload_n 0, 1) := by decide +kernel
theorem dX3_clashes_48 : decode cX3_clashes 48 = .ok (.getfield 26, 3) := by decide +kernel
theorem dX3_clashes_51 : decode cX3_clashes 51 = .ok (.iconst 0, 1) := by decide +kernel
theorem dX3_clashes_52 : decode cX3_clashes 52 = .ok (.iaload, 1) := by decide +kernel
theorem dX3_clashes_53 : decode cX3_clashes 53 = .ok (.iload_n 3, 1) := by decide +kernel
theorem dX3_clashes_54 : decode cX3_clashes 54 = .ok (.invokevirtual 113, 3) := by decide +kernel
theorem dX3_clashes_57 : decode cX3_clashes 57 = .ok (.iaload, 1) := by decide +kernel
theorem dX3_clashes_58 : decode cX3_clashes 58 = .ok (.ifCond .eq 7, 3) := by decide +kernel
theorem dX3_clashes_61 : decode cX3_clashes 61 = .ok (.iconst 1, 1) := by decide +kernel
theorem dX3_clashes_62 : decode cX3_clashes 62 = .ok (.goto 4, 3) := by decide +kernel
theorem dX3_clashes_65 : decode cX3_clashes 65 = .ok (.iconst 0, 1) := by decide +kernel
theorem dX3_clashes_66 : decode cX3_clashes 66 = .ok (.ireturn, 1) := by decide +kernel
theorem dX3_clashes_67 : decode cX3_clashes 67 = .ok (.aload_n 0, 1) := by decide +kernel
theorem dX3_clashes_68 : decode cX3_clashes 68 = .ok (.getfield 33, 3) := by decide +kernel
theorem dX3_clashes_71 : decode cX3_clashes 71 = .ok (.aload_n 0, 1) := by decide +kernel
theorem dX3_clashes_72 : decode cX3_clashes 72 = .ok (.getfield 12, 3) := by decide +kernel
theorem dX3_clashes_75 : decode cX3_clashes 75 = .ok (.aload_n 0, 1) := by decide +kernel
theorem dX3_clashes_76 : decode cX3_clashes 76 = .ok (.getfield 26, 3) := by decide +kernel
theorem dX3_clashes_79 : decode cX3_clashes 79 = .ok (.iconst 0, 1) := by decide +kernel
theorem dX3_clashes_80 : decode cX3_clashes 80 = .ok (.iaload, 1) := by decide +kernel
theorem dX3_clashes_81 : decode cX3_clashes 81 = .ok (.iload_n 3, 1) := by decide +kernel
theorem dX3_clashes_82 : decode cX3_clashes 82 = .ok (.invokevirtual 113, 3) := by decide +kernel
theorem dX3_clashes_85 : decode cX3_clashes 85 = .ok (.baload, 1) := by decide +kernel
theorem dX3_clashes_86 : decode cX3_clashes 86 = .ok (.ireturn, 1) := by decide +kernel
theorem dX3_clashes_87 : decode cX3_clashes 87 = .ok (.iload_n 3, 1) := by decide +kernel
theorem dX3_clashes_88 : decode cX3_clashes 88 = .ok (.aload_n 0, 1) := by decide +kernel
theorem dX3_clashes_89 : decode cX3_clashes 89 = .ok (.getfield 26, 3) := by decide +kernel
theorem dX3_clashes_92 : decode cX3_clashes 92 = .ok (.iconst 0, 1) := by decide +kernel
theorem dX3_clashes_93 : decode cX3_clashes 93 = .ok (.iaload, 1) := by decide +kernel
theorem dX3_clashes_94 : decode cX3_clashes 94 = .ok (.if_icmp .ge 7, 3) := by decide +kernel
theorem dX3_clashes_97 : decode cX3_clashes 97 = .ok (.iconst 1, 1) := by decide +kernel
theorem dX3_clashes_98 : decode cX3_clashes 98 = .ok (.goto 4, 3) := by decide +kernel
theorem dX3_clashes_101 : decode cX3_clashes 101 = .ok (.iconst 0, 1) := by decide +kernel
theorem dX3_clashes_102 : decode cX3_clashes 102 = .ok (.ireturn, 1) := by decide +kernel
theorem dX3_clashes_103 : decode cX3_clashes 103 = .ok (.iconst 0, 1) := by decide +kernel
theorem dX3_clashes_104 : decode cX3_clashes 104 = .ok (.ireturn, 1) := by decide +kernel
set_option maxRecDepth 20000 in
theorem ggX3_put_X2_addDoor : GoodIn wsX3_put wsX2_addDoor := goodIn_r _ [14, 15, 16, 17, 18, 41, 42, 43, 44, 45, 46, 47, 48, 49, 50, 51, 52, 53, 54] (by decide +kernel) (by decide +kernel)
set_option maxRecDepth 20000 in
theorem gX3_put_X2_addDoor : GoodIn wsX3_put (wsV RX3 122 RX2 yX2_addDoor wsX2_addDoor) := goodIn_app (goodIn_of _ (by decide +kernel)) ggX3_put_X2_addDoor
set_option maxRecDepth 20000 in
theorem ggX3_put_X2_numberOf : GoodIn wsX3_put wsX2_numberOf := goodIn_r _ [22, 23, 41, 42, 43, 44, 45, 46, 47, 48, 49, 50, 51, 52, 53, 54] (by decide +kernel) (by decide +kernel)
set_option maxRecDepth 20000 in
theorem gX3_put_X2_numberOf : GoodIn wsX3_put (wsV RX3 113 RX2 yX2_numberOf wsX2_numberOf) := goodIn_app (goodIn_of _ (by decide +kernel)) ggX3_put_X2_numberOf
set_option maxRecDepth 20000 in
theorem ggX3_put_X2_addMist : GoodIn wsX3_put wsX2_addMist := goodIn_r _ [27, 28, 29, 30, 31, 41, 42, 43, 44, 45, 46, 47, 48, 49, 50, 51, 52, 53, 54] (by decide +kernel) (by decide +kernel)
set_option maxRecDepth 20000 in
theorem gX3_put_X2_addMist : GoodIn wsX3_put (wsV RX3 129 RX2 yX2_addMist wsX2_addMist) := goodIn_app (goodIn_of _ (by decide +kernel)) ggX3_put_X2_addMist
theorem dX3_put_0 : decode cX3_put 0 = .ok (.iload_n 1, 1) := by decide +kernel
theorem dX3_put_1 : decode cX3_put 1 = .ok (.tableswitch 201 0 4 #[35, 64, 92, 128, 173], 35) := by decide +kernel
theorem dX3_put_36 : decode cX3_put 36 = .ok (.aload_n 0, 1) := by decide +kernel
theorem dX3_put_37 : decode cX3_put 37 = .ok (.getfield 12, 3) := by decide +kernel
theorem dX3_put_40 : decode cX3_put 40 = .ok (.aload_n 0, 1) := by decide +kernel
theorem dX3_put_41 : decode cX3_put 41 = .ok (.getfield 26, 3) := by decide +kernel
theorem dX3_put_44 : decode cX3_put 44 = .ok (.iconst 0, 1) := by decide +kernel
theorem dX3_put_45 : decode cX3_put 45 = .ok (.iaload, 1) := by decide +kernel
theorem dX3_put_46 : decode cX3_put 46 = .ok (.putfield 116, 3) := by decide +kernel
theorem dX3_put_49 : decode cX3_put 49 = .ok (.aload_n 0, 1) := by decide +kernel
theorem dX3_put_50 : decode cX3_put 50 = .ok (.getfield 12, 3) := by decide +kernel
theorem dX3_put_53 : decode cX3_put 53 = .ok (.aload_n 0, 1) := by decide +kernel
theorem dX3_put_54 : decode cX3_put 54 = .ok (.getfield 26, 3) := by decide +kernel
theorem dX3_put_57 : decode cX3_put 57 = .ok (.iconst 1, 1) := by decide +kernel
theorem dX3_put_58 : decode cX3_put 58 = .ok (.iaload, 1) := by decide +kernel
theorem dX3_put_59 : decode cX3_put 59 = .ok (.putfield 119, 3) := by decide +kernel
theorem dX3_put_62 : decode cX3_put 62 = .ok (.goto 166, 3) := by decide +kernel
theorem dX3_put_65 : decode cX3_put 65 = .ok (.aload_n 0, 1) := by decide +kernel
theorem dX3_put_66 : decode cX3_put 66 = .ok (.getfield 12, 3) := by decide +kernel
theorem dX3_put_69 : decode cX3_put 69 = .ok (.aload_n 0, 1) := by decide +kernel
theorem dX3_put_70 : decode cX3_put 70 = .ok (.getfield 26, 3) := by decide +kernel
theorem dX3_put_73 : decode cX3_put 73 = .ok (.iconst 0, 1) := by decide +kernel
theorem dX3_put_74 : decode cX3_put 74 = .ok (.iaload, 1) := by decide +kernel
theorem dX3_put_75 : decode cX3_put 75 = .ok (.aload_n 0, 1) := by decide +kernel
theorem dX3_put_76 : decode cX3_put 76 = .ok (.getfield 26, 3) := by decide +kernel
theorem dX3_put_79 : decode cX3_put 79 = .ok (.iconst 1, 1) := by decide +kernel
theorem dX3_put_80 : decode cX3_put 80 = .ok (.iaload, 1) := by decide +kernel
theorem dX3_put_81 : decode cX3_put 81 = .ok (.aload_n 0, 1) := by decide +kernel
theorem dX3_put_82 : decode cX3_put 82 = .ok (.getfield 26, 3) := by decide +kernel
theorem dX3_put_85 : decode cX3_put 85 = .ok (.iconst 2, 1) := by decide +kernel
theorem dX3_put_86 : decode cX3_put 86 = .ok (.iaload, 1) := by decide +kernel
theorem dX3_put_87 : decode cX3_put 87 = .ok (.invokevirtual 122, 3) := by decide +kernel
theorem dX3_put_90 : decode cX3_put 90 = .ok (.goto 138, 3) := by decide +kernel
theorem dX3_put_93 : decode cX3_put 93 = .ok (.aload_n 0, 1) := by decide +kernel
theorem dX3_put_94 : decode cX3_put 94 = .ok (.getfield 12, 3) := by decide +kernel
theorem dX3_put_97 : decode cX3_put 97 = .ok (.getfield 110, 3) := by decide +kernel
theorem dX3_put_100 : decode cX3_put 100 = .ok (.aload_n 0, 1) := by decide +kernel
theorem dX3_put_101 : decode cX3_put 101 = .ok (.getfield 12, 3) := by decide +kernel
theorem dX3_put_104 : decode cX3_put 104 = .ok (.aload_n 0, 1) := by decide +kernel
theorem dX3_put_105 : decode cX3_put 105 = .ok (.getfield 26, 3) := by decide +kernel
theorem dX3_put_108 : decode cX3_put 108 = .ok (.iconst 0, 1) := by decide +kernel
theorem dX3_put_109 : decode cX3_put 109 = .ok (.iaload, 1) := by decide +kernel
theorem dX3_put_110 : decode cX3_put 110 = .ok (.aload_n 0, 1) := by decide +kernel
theorem dX3_put_111 : decode cX3_put 111 = .ok (.getfield 26, 3) := by decide +kernel
theorem dX3_put_114 : decode cX3_put 114 = .ok (.iconst 1, 1) := by decide +kernel
theorem dX3_put_115 : decode cX3_put 115 = .ok (.iaload, 1) := by decide +kernel
theorem dX3_put_116 : decode cX3_put 116 = .ok (.invokevirtual 113, 3) := by decide +kernel
theorem dX3_put_119 : decode cX3_put 119 = .ok (.aload_n 0, 1) := by decide +kernel
theorem dX3_put_120 : decode cX3_put 120 = .ok (.getfield 26, 3) := by decide +kernel
theorem dX3_put_123 : decode cX3_put 123 = .ok (.iconst 2, 1) := by decide +kernel
theorem dX3_put_124 : decode cX3_put 124 = .ok (.iaload, 1) := by decide +kernel
theorem dX3_put_125 : decode cX3_put 125 = .ok (.iastore, 1) := by decide +kernel
theorem dX3_put_126 : decode cX3_put 126 = .ok (.goto 102, 3) := by decide +kernel
theorem dX3_put_129 : decode cX3_put 129 = .ok (.aload_n 0, 1) := by decide +kernel
theorem dX3_put_130 : decode cX3_put 130 = .ok (.getfield 12, 3) := by decide +kernel
theorem dX3_put_133 : decode cX3_put 133 = .ok (.aload_n 0, 1) := by decide +kernel
theorem dX3_put_134 : decode cX3_put 134 = .ok (.getfield 26, 3) := by decide +kernel
theorem dX3_put_137 : decode cX3_put 137 = .ok (.iconst 0, 1) := by decide +kernel
theorem dX3_put_138 : decode cX3_put 138 = .ok (.iaload, 1) := by decide +kernel
theorem dX3_put_139 : decode cX3_put 139 = .ok (.aload_n 0, 1) := by decide +kernel
theorem dX3_put_140 : decode cX3_put 140 = .ok (.getfield 26, 3) := by decide +kernel
theorem dX3_put_143 : decode cX3_put 143 = .ok (.iconst 1, 1) := by decide +kernel
theorem dX3_put_144 : decode cX3_put 144 = .ok (.iaload, 1) := by decide +kernel
theorem dX3_put_145 : decode cX3_put 145 = .ok (.invokevirtual 113, 3) := by decide +kernel
theorem dX3_put_148 : decode cX3_put 148 = .ok (.istore_n 2, 1) := by decide +kernel
theorem dX3_put_149 : decode cX3_put 149 = .ok (.aload_n 0, 1) := by decide +kernel
theorem dX3_put_150 : decode cX3_put 150 = .ok (.getfield 12, 3) := by decide +kernel
theorem dX3_put_153 : decode cX3_put 153 = .ok (.getfield 126, 3) := by decide +kernel
theorem dX3_put_156 : decode cX3_put 156 = .ok (.iload_n 2, 1) := by decide +kernel
theorem dX3_put_157 : decode cX3_put 157 = .ok (.aload_n 0, 1) := by decide +kernel
theorem dX3_put_158 : decode cX3_put 158 = .ok (.getfield 26, 3) := by decide +kernel
theorem dX3_put_161 : decode cX3_put 161 = .ok (.iconst 2, 1) := by decide +kernel
theorem dX3_put_162 : decode cX3_put 162 = .ok (.iaload, 1) := by decide +kernel
theorem dX3_put_163 : decode cX3_put 163 = .ok (.iastore, 1) := by decide +kernel
theorem dX3_put_164 : decode cX3_put 164 = .ok (.aload_n 0, 1) := by decide +kernel
theorem dX3_put_165 : decode cX3_put 165 = .ok (.getfield 33, 3) := by decide +kernel
theorem dX3_put_168 : decode cX3_put 168 = .ok (.iload_n 2, 1) := by decide +kernel
theorem dX3_put_169 : decode cX3_put 169 = .ok (.iconst 1, 1) := by decide +kernel
theorem dX3_put_170 : decode cX3_put 170 = .ok (.bastore, 1) := by decide +kernel
theorem dX3_put_171 : decode cX3_put 171 = .ok (.goto 57, 3) := by decide +kernel
theorem dX3_put_174 : decode cX3_put 174 = .ok (.aload_n 0, 1) := by decide +kernel
theorem dX3_put_175 : decode cX3_put 175 = .ok (.getfield 12, 3) := by decide +kernel
theorem dX3_put_178 : decode cX3_put 178 = .ok (.aload_n 0, 1) := by decide +kernel
theorem dX3_put_179 : decode cX3_put 179 = .ok (.getfield 26, 3) := by decide +kernel
theorem dX3_put_182 : decode cX3_put 182 = .ok (.iconst 0, 1) := by decide +kernel
theorem dX3_put_183 : decode cX3_put 183 = .ok (.iaload, 1) := by decide +kernel
theorem dX3_put_184 : decode cX3_put 184 = .ok (.aload_n 0, 1) := by decide +kernel
theorem dX3_put_185 : decode cX3_put 185 = .ok (.getfield 26, 3) := by decide +kernel
theorem dX3_put_188 : decode cX3_put 188 = .ok (.iconst 1, 1) := by decide +kernel
theorem dX3_put_189 : decode cX3_put 189 = .ok (.iaload, 1) := by decide +kernel
theorem dX3_put_190 : decode cX3_put 190 = .ok (.aload_n 0, 1) := by decide +kernel
theorem dX3_put_191 : decode cX3_put 191 = .ok (.getfield 26, 3) := by decide +kernel
theorem dX3_put_194 : decode cX3_put 194 = .ok (.iconst 2, 1) := by decide +kernel
theorem dX3_put_195 : decode cX3_put 195 = .ok (.iaload, 1) := by decide +kernel
theorem dX3_put_196 : decode cX3_put 196 = .ok (.invokevirtual 129, 3) := by decide +kernel
theorem dX3_put_199 : decode cX3_put 199 = .ok (.goto 29, 3) := by decide +kernel
theorem dX3_put_202 : decode cX3_put 202 = .ok (.aload_n 0, 1) := by decide +kernel
theorem dX3_put_203 : decode cX3_put 203 = .ok (.getfield 12, 3) := by decide +kernel
theorem dX3_put_206 : decode cX3_put 206 = .ok (.aload_n 0, 1) := by decide +kernel
theorem dX3_put_207 : decode cX3_put 207 = .ok (.getfield 26, 3) := by decide +kernel
theorem dX3_put_210 : decode cX3_put 210 = .ok (.iconst 0, 1) := by decide +kernel
theorem dX3_put_211 : decode cX3_put 211 = .ok (.iaload, 1) := by decide +kernel
theorem dX3_put_212 : decode cX3_put 212 = .ok (.putfield 132, 3) := by decide +kernel
theorem dX3_put_215 : decode cX3_put 215 = .ok (.aload_n 0, 1) := by decide +kernel
theorem dX3_put_216 : decode cX3_put 216 = .ok (.getfield 12, 3) := by decide +kernel
theorem dX3_put_219 : decode cX3_put 219 = .ok (.aload_n 0, 1) := by decide +kernel
theorem dX3_put_220 : decode cX3_put 220 = .ok (.getfield 26, 3) := by decide +kernel
theorem dX3_put_223 : decode cX3_put 223 = .ok (.iconst 1, 1) := by decide +kernel
theorem dX3_put_224 : decode cX3_put 224 = .ok (.iaload, 1) := by decide +kernel
theorem dX3_put_225 : decode cX3_put 225 = .ok (.putfield 135, 3) := by decide +kernel
theorem dX3_put_228 : decode cX3_put 228 = .ok (.return_, 1) := by decide +kernel
theorem dX3_wordOf_0 : decode cX3_wordOf 0 = .ok (.iload_n 0, 1) := by decide +kernel
theorem dX3_wordOf_1 : decode cX3_wordOf 1 = .ok (.tableswitch 50 0 4 #[35, 38, 41, 44, 47], 35) := by decide +kernel
theorem dX3_wordOf_36 : decode cX3_wordOf 36 = .ok (.ldc 138, 2) := by decide +kernel
theorem dX3_wordOf_38 : decode cX3_wordOf 38 = .ok (.areturn, 1) := by decide +kernel
theorem dX3_wordOf_39 : decode cX3_wordOf 39 = .ok (.ldc 140, 2) := by decide +kernel
theorem dX3_wordOf_41 : decode cX3_wordOf 41 = .ok (.areturn, 1) := by decide +kernel
theorem dX3_wordOf_42 : decode cX3_wordOf 42 = .ok (.ldc 142, 2) := by decide +kernel
theorem dX3_wordOf_44 : decode cX3_wordOf 44 = .ok (.areturn, 1) := by decide +kernel
theorem dX3_wordOf_45 : decode cX3_wordOf 45 = .ok (.ldc 144, 2) := by decide +kernel
theorem dX3_wordOf_47 : decode cX3_wordOf 47 = .ok (.areturn, 1) := by decide +kernel
theorem dX3_wordOf_48 : decode cX3_wordOf 48 = .ok (.ldc 145, 2) := by decide +kernel
theorem dX3_wordOf_50 : decode cX3_wordOf 50 = .ok (.areturn, 1) := by decide +kernel
theorem dX3_wordOf_51 : decode cX3_wordOf 51 = .ok (.ldc 147, 2) := by decide +kernel
theorem dX3_wordOf_53 : decode cX3_wordOf 53 = .ok (.areturn, 1) := by decide +kernel
theorem dX3_partsOf_0 : decode cX3_partsOf 0 = .ok (.iload_n 0, 1) := by decide +kernel
theorem dX3_partsOf_1 : decode cX3_partsOf 1 = .ok (.ifCond .eq 8, 3) := by decide +kernel
theorem dX3_partsOf_4 : decode cX3_partsOf 4 = .ok (.iload_n 0, 1) := by decide +kernel
theorem dX3_partsOf_5 : decode cX3_partsOf 5 = .ok (.iconst 5, 1) := by decide +kernel
theorem dX3_partsOf_6 : decode cX3_partsOf 6 = .ok (.if_icmp .ne 7, 3) := by decide +kernel
theorem dX3_partsOf_9 : decode cX3_partsOf 9 = .ok (.iconst 2, 1) := by decide +kernel
theorem dX3_partsOf_10 : decode cX3_partsOf 10 = .ok (.goto 4, 3) := by decide +kernel
theorem dX3_partsOf_13 : decode cX3_partsOf 13 = .ok (.iconst 3, 1) := by decide +kernel
theorem dX3_partsOf_14 : decode cX3_partsOf 14 = .ok (.ireturn, 1) := by decide +kernel
theorem dX3_timesOf_0 : decode cX3_timesOf 0 = .ok (.iload_n 0, 1) := by decide +kernel
theorem dX3_timesOf_1 : decode cX3_timesOf 1 = .ok (.tableswitch 40 1 4 #[31, 34, 34, 37], 31) := by decide +kernel
theorem dX3_timesOf_32 : decode cX3_timesOf 32 = .ok (.bipush 6, 2) := by decide +kernel
theorem dX3_timesOf_34 : decode cX3_timesOf 34 = .ok (.ireturn, 1) := by decide +kernel
theorem dX3_timesOf_35 : decode cX3_timesOf 35 = .ok (.bipush 30, 2) := by decide +kernel
theorem dX3_timesOf_37 : decode cX3_timesOf 37 = .ok (.ireturn, 1) := by decide +kernel
theorem dX3_timesOf_38 : decode cX3_timesOf 38 = .ok (.bipush 10, 2) := by decide +kernel
theorem dX3_timesOf_40 : decode cX3_timesOf 40 = .ok (.ireturn, 1) := by decide +kernel
theorem dX3_timesOf_41 : decode cX3_timesOf 41 = .ok (.iconst 1, 1) := by decide +kernel
theorem dX3_timesOf_42 : decode cX3_timesOf 42 = .ok (.ireturn, 1) := by decide +kernel
theorem dX3_leastOf_0 : decode cX3_leastOf 0 = .ok (.iload_n 0, 1) := by decide +kernel
theorem dX3_leastOf_1 : decode cX3_leastOf 1 = .ok (.ifCond .ne 7, 3) := by decide +kernel
theorem dX3_leastOf_4 : decode cX3_leastOf 4 = .ok (.iconst 1, 1) := by decide +kernel
theorem dX3_leastOf_5 : decode cX3_leastOf 5 = .ok (.goto 4, 3) := by decide +kernel
theorem dX3_leastOf_8 : decode cX3_leastOf 8 = .ok (.iconst 0, 1) := by decide +kernel
theorem dX3_leastOf_9 : decode cX3_leastOf 9 = .ok (.istore_n 2, 1) := by decide +kernel
theorem dX3_leastOf_10 : decode cX3_leastOf 10 = .ok (.iload_n 0, 1) := by decide +kernel
theorem dX3_leastOf_11 : decode cX3_leastOf 11 = .ok (.iconst 2, 1) := by decide +kernel
theorem dX3_leastOf_12 : decode cX3_leastOf 12 = .ok (.if_icmp .ne 8, 3) := by decide +kernel
theorem dX3_leastOf_15 : decode cX3_leastOf 15 = .ok (.iload_n 1, 1) := by decide +kernel
theorem dX3_leastOf_16 : decode cX3_leastOf 16 = .ok (.iconst 2, 1) := by decide +kernel
theorem dX3_leastOf_17 : decode cX3_leastOf 17 = .ok (.if_icmp .eq 12, 3) := by decide +kernel
theorem dX3_leastOf_20 : decode cX3_leastOf 20 = .ok (.iload_n 0, 1) := by decide +kernel
theorem dX3_leastOf_21 : decode cX3_leastOf 21 = .ok (.iconst 5, 1) := by decide +kernel
theorem dX3_leastOf_22 : decode cX3_leastOf 22 = .ok (.if_icmp .ne 11, 3) := by decide +kernel
theorem dX3_leastOf_25 : decode cX3_leastOf 25 = .ok (.iload_n 1, 1) := by decide +kernel
theorem dX3_leastOf_26 : decode cX3_leastOf 26 = .ok (.ifCond .ne 7, 3) := by decide +kernel
theorem dX3_leastOf_29 : decode cX3_leastOf 29 = .ok (.iconst 1, 1) := by decide +kernel
theorem dX3_leastOf_30 : decode cX3_leastOf 30 = .ok (.goto 4, 3) := by decide +kernel
theorem dX3_leastOf_33 : decode cX3_leastOf 33 = .ok (.iconst 0, 1) := by decide +kernel
theorem dX3_leastOf_34 : decode cX3_leastOf 34 = .ok (.istore_n 3, 1) := by decide +kernel
theorem dX3_leastOf_35 : decode cX3_leastOf 35 = .ok (.iload_n 2, 1) := by decide +kernel
theorem dX3_leastOf_36 : decode cX3_leastOf 36 = .ok (.ifCond .ne 7, 3) := by decide +kernel
theorem dX3_leastOf_39 : decode cX3_leastOf 39 = .ok (.iload_n 3, 1) := by decide +kernel
theorem dX3_leastOf_40 : decode cX3_leastOf 40 = .ok (.ifCond .eq 7, 3) := by decide +kernel
theorem dX3_leastOf_43 : decode cX3_leastOf 43 = .ok (.iconst 1, 1) := by decide +kernel
theorem dX3_leastOf_44 : decode cX3_leastOf 44 = .ok (.goto 4, 3) := by decide +kernel
theorem dX3_leastOf_47 : decode cX3_leastOf 47 = .ok (.iconst 0, 1) := by decide +kernel
theorem dX3_leastOf_48 : decode cX3_leastOf 48 = .ok (.ireturn, 1) := by decide +kernel
theorem dX3_mostOf_0 : decode cX3_mostOf 0 = .ok (.iload_n 1, 1) := by decide +kernel
theorem dX3_mostOf_1 : decode cX3_mostOf 1 = .ok (.tableswitch 123 0 5 #[39, 67, 123, 123, 96, 110], 39) := by decide +kernel
theorem dX3_mostOf_40 : decode cX3_mostOf 40 = .ok (.iload_n 2, 1) := by decide +kernel
theorem dX3_mostOf_41 : decode cX3_mostOf 41 = .ok (.ifCond .ne 8, 3) := by decide +kernel
theorem dX3_mostOf_44 : decode cX3_mostOf 44 = .ok (.bipush 12, 2) := by decide +kernel
theorem dX3_mostOf_46 : decode cX3_mostOf 46 = .ok (.goto 21, 3) := by decide +kernel
theorem dX3_mostOf_49 : decode cX3_mostOf 49 = .ok (.bipush 12, 2) := by decide +kernel
theorem dX3_mostOf_51 : decode cX3_mostOf 51 = .ok (.bipush 60, 2) := by decide +kernel
theorem dX3_mostOf_53 : decode cX3_mostOf 53 = .ok (.iconst 1, 1) := by decide +kernel
theorem dX3_mostOf_54 : decode cX3_mostOf 54 = .ok (.aload_n 0, 1) := by decide +kernel
theorem dX3_mostOf_55 : decode cX3_mostOf 55 = .ok (.getfield 26, 3) := by decide +kernel
theorem dX3_mostOf_58 : decode cX3_mostOf 58 = .ok (.iconst 0, 1) := by decide +kernel
theorem dX3_mostOf_59 : decode cX3_mostOf 59 = .ok (.iaload, 1) := by decide +kernel
theorem dX3_mostOf_60 : decode cX3_mostOf 60 = .ok (.invokestatic 149, 3) := by decide +kernel
theorem dX3_mostOf_63 : decode cX3_mostOf 63 = .ok (.idiv, 1) := by decide +kernel
theorem dX3_mostOf_64 : decode cX3_mostOf 64 = .ok (.invokestatic 154, 3) := by decide +kernel
theorem dX3_mostOf_67 : decode cX3_mostOf 67 = .ok (.ireturn, 1) := by decide +kernel
theorem dX3_mostOf_68 : decode cX3_mostOf 68 = .ok (.iload_n 2, 1) := by decide +kernel
theorem dX3_mostOf_69 : decode cX3_mostOf 69 = .ok (.ifCond .ne 15, 3) := by decide +kernel
theorem dX3_mostOf_72 : decode cX3_mostOf 72 = .ok (.aload_n 0, 1) := by decide +kernel
theorem dX3_mostOf_73 : decode cX3_mostOf 73 = .ok (.getfield 12, 3) := by decide +kernel
theorem dX3_mostOf_76 : decode cX3_mostOf 76 = .ok (.getfield 116, 3) := by decide +kernel
theorem dX3_mostOf_79 : decode cX3_mostOf 79 = .ok (.iconst 1, 1) := by decide +kernel
theorem dX3_mostOf_80 : decode cX3_mostOf 80 = .ok (.isub, 1) := by decide +kernel
theorem dX3_mostOf_81 : decode cX3_mostOf 81 = .ok (.goto 15, 3) := by decide +kernel
theorem dX3_mostOf_84 : decode cX3_mostOf 84 = .ok (.iload_n 2, 1) := by decide +kernel
theorem dX3_mostOf_85 : decode cX3_mostOf 85 = .ok (.iconst 1, 1) := by decide +kernel
theorem dX3_mostOf_86 : decode cX3_mostOf 86 = .ok (.if_icmp .ne 8, 3) := by decide +kernel
theorem dX3_mostOf_89 : decode cX3_mostOf 89 = .ok (.bipush 99, 2) := by decide +kernel
theorem dX3_mostOf_91 : decode cX3_mostOf 91 = .ok (.goto 5, 3) := by decide +kernel
theorem dX3_mostOf_94 : decode cX3_mostOf 94 = .ok (.bipush 9, 2) := by decide +kernel
theorem dX3_mostOf_96 : decode cX3_mostOf 96 = .ok (.ireturn, 1) := by decide +kernel
theorem dX3_mostOf_97 : decode cX3_mostOf 97 = .ok (.iload_n 2, 1) := by decide +kernel
theorem dX3_mostOf_98 : decode cX3_mostOf 98 = .ok (.iconst 2, 1) := by decide +kernel
theorem dX3_mostOf_99 : decode cX3_mostOf 99 = .ok (.if_icmp .ne 8, 3) := by decide +kernel
theorem dX3_mostOf_102 : decode cX3_mostOf 102 = .ok (.bipush 20, 2) := by decide +kernel
theorem dX3_mostOf_104 : decode cX3_mostOf 104 = .ok (.goto 6, 3) := by decide +kernel
theorem dX3_mostOf_107 : decode cX3_mostOf 107 = .ok (.sipush 999, 3) := by decide +kernel
theorem dX3_mostOf_110 : decode cX3_mostOf 110 = .ok (.ireturn, 1) := by decide +kernel
theorem dX3_mostOf_111 : decode cX3_mostOf 111 = .ok (.iload_n 2, 1) := by decide +kernel
theorem dX3_mostOf_112 : decode cX3_mostOf 112 = .ok (.ifCond .ne 8, 3) := by decide +kernel
theorem dX3_mostOf_115 : decode cX3_mostOf 115 = .ok (.bipush 20, 2) := by decide +kernel
theorem dX3_mostOf_117 : decode cX3_mostOf 117 = .ok (.goto 6, 3) := by decide +kernel
theorem dX3_mostOf_120 : decode cX3_mostOf 120 = .ok (.sipush 999, 3) := by decide +kernel
theorem dX3_mostOf_123 : decode cX3_mostOf 123 = .ok (.ireturn, 1) := by decide +kernel
theorem dX3_mostOf_124 : decode cX3_mostOf 124 = .ok (.iload_n 2, 1) := by decide +kernel
theorem dX3_mostOf_125 : decode cX3_mostOf 125 = .ok (.ifCond .ne 15, 3) := by decide +kernel
theorem dX3_mostOf_128 : decode cX3_mostOf 128 = .ok (.aload_n 0, 1) := by decide +kernel
theorem dX3_mostOf_129 : decode cX3_mostOf 129 = .ok (.getfield 12, 3) := by decide +kernel
theorem dX3_mostOf_132 : decode cX3_mostOf 132 = .ok (.getfield 116, 3) := by decide +kernel
theorem dX3_mostOf_135 : decode cX3_mostOf 135 = .ok (.iconst 1, 1) := by decide +kernel
theorem dX3_mostOf_136 : decode cX3_mostOf 136 = .ok (.isub, 1) := by decide +kernel
theorem dX3_mostOf_137 : decode cX3_mostOf 137 = .ok (.goto 22, 3) := by decide +kernel
theorem dX3_mostOf_140 : decode cX3_mostOf 140 = .ok (.iload_n 2, 1) := by decide +kernel
theorem dX3_mostOf_141 : decode cX3_mostOf 141 = .ok (.iconst 1, 1) := by decide +kernel
theorem dX3_mostOf_142 : decode cX3_mostOf 142 = .ok (.if_icmp .ne 15, 3) := by decide +kernel
theorem dX3_mostOf_145 : decode cX3_mostOf 145 = .ok (.aload_n 0, 1) := by decide +kernel
theorem dX3_mostOf_146 : decode cX3_mostOf 146 = .ok (.getfield 12, 3) := by decide +kernel
theorem dX3_mostOf_149 : decode cX3_mostOf 149 = .ok (.getfield 119, 3) := by decide +kernel
theorem dX3_mostOf_152 : decode cX3_mostOf 152 = .ok (.iconst 1, 1) := by decide +kernel
theorem dX3_mostOf_153 : decode cX3_mostOf 153 = .ok (.isub, 1) := by decide +kernel
theorem dX3_mostOf_154 : decode cX3_mostOf 154 = .ok (.goto 5, 3) := by decide +kernel
theorem dX3_mostOf_157 : decode cX3_mostOf 157 = .ok (.bipush 99, 2) := by decide +kernel
theorem dX3_mostOf_159 : decode cX3_mostOf 159 = .ok (.ireturn, 1) := by decide +kernel
theorem dX4_init_0 : decode cX4_init 0 = .ok (.aload_n 0, 1) := by decide +kernel
theorem dX4_init_1 : decode cX4_init 1 = .ok (.invokespecial 3, 3) := by decide +kernel
theorem dX4_init_4 : decode cX4_init 4 = .ok (.aload_n 0, 1) := by decide +kernel
theorem dX4_init_5 : decode cX4_init 5 = .ok (.bipush 60, 2) := by decide +kernel
theorem dX4_init_7 : decode cX4_init 7 = .ok (.newarray .int, 2) := by decide +kernel
theorem dX4_init_9 : decode cX4_init 9 = .ok (.putfield 9, 3) := by decide +kernel
theorem dX4_init_12 : decode cX4_init 12 = .ok (.aload_n 0, 1) := by decide +kernel
theorem dX4_init_13 : decode cX4_init 13 = .ok (.bipush 6, 2) := by decide +kernel
theorem dX4_init_15 : decode cX4_init 15 = .ok (.newarray .int, 2) := by decide +kernel
theorem dX4_init_17 : decode cX4_init 17 = .ok (.putfield 15, 3) := by decide +kernel
theorem dX4_init_20 : decode cX4_init 20 = .ok (.aload_n 0, 1) := by decide +kernel
theorem dX4_init_21 : decode cX4_init 21 = .ok (.bipush 60, 2) := by decide +kernel
theorem dX4_init_23 : decode cX4_init 23 = .ok (.newarray .int, 2) := by decide +kernel
theorem dX4_init_25 : decode cX4_init 25 = .ok (.putfield 18, 3) := by decide +kernel
theorem dX4_init_28 : decode cX4_init 28 = .ok (.aload_n 0, 1) := by decide +kernel
theorem dX4_init_29 : decode cX4_init 29 = .ok (.aload_n 1, 1) := by decide +kernel
theorem dX4_init_30 : decode cX4_init 30 = .ok (.putfield 21, 3) := by decide +kernel
theorem dX4_init_33 : decode cX4_init 33 = .ok (.aload_n 0, 1) := by decide +kernel
theorem dX4_init_34 : decode cX4_init 34 = .ok (.aload_n 2, 1) := by decide +kernel
theorem dX4_init_35 : decode cX4_init 35 = .ok (.putfield 25, 3) := by decide +kernel
theorem dX4_init_38 : decode cX4_init 38 = .ok (.return_, 1) := by decide +kernel
theorem dX4_eyeOf_0 : decode cX4_eyeOf 0 = .ok (.aload_n 0, 1) := by decide +kernel
theorem dX4_eyeOf_1 : decode cX4_eyeOf 1 = .ok (.getfield 21, 3) := by decide +kernel
theorem dX4_eyeOf_4 : decode cX4_eyeOf 4 = .ok (.getfield 29, 3) := by decide +kernel
theorem dX4_eyeOf_7 : decode cX4_eyeOf 7 = .ok (.iload_n 1, 1) := by decide +kernel
theorem dX4_eyeOf_8 : decode cX4_eyeOf 8 = .ok (.iaload, 1) := by decide +kernel
theorem dX4_eyeOf_9 : decode cX4_eyeOf 9 = .ok (.aload_n 0, 1) := by decide +kernel
theorem dX4_eyeOf_10 : decode cX4_eyeOf 10 = .ok (.getfield 25, 3) := by decide +kernel
theorem dX4_eyeOf_13 : decode cX4_eyeOf 13 = .ok (.getfield 34, 3) := by decide +kernel
theorem dX4_eyeOf_16 : decode cX4_eyeOf 16 = .ok (.iload_n 1, 1) := by decide +kernel
theorem dX4_eyeOf_17 : decode cX4_eyeOf 17 = .ok (.iaload, 1) := by decide +kernel
theorem dX4_eyeOf_18 : decode cX4_eyeOf 18 = .ok (.aload_n 0, 1) := by decide +kernel
theorem dX4_eyeOf_19 : decode cX4_eyeOf 19 = .ok (.getfield 21, 3) := by decide +kernel
theorem dX4_eyeOf_22 : decode cX4_eyeOf 22 = .ok (.getfield 39, 3) := by decide +kernel
theorem dX4_eyeOf_25 : decode cX4_eyeOf 25 = .ok (.imul, 1) := by decide +kernel
theorem dX4_eyeOf_26 : decode cX4_eyeOf 26 = .ok (.iadd, 1) := by decide +kernel
theorem dX4_eyeOf_27 : decode cX4_eyeOf 27 = .ok (.iconst 1, 1) := by decide +kernel
theorem dX4_eyeOf_28 : decode cX4_eyeOf 28 = .ok (.iadd, 1) := by decide +kernel
theorem dX4_eyeOf_29 : decode cX4_eyeOf 29 = .ok (.ireturn, 1) := by decide +kernel
theorem dX4_lineX_0 : decode cX4_lineX 0 = .ok (.aload_n 0, 1) := by decide +kernel
theorem dX4_lineX_1 : decode cX4_lineX 1 = .ok (.getfield 21, 3) := by decide +kernel
theorem dX4_lineX_4 : decode cX4_lineX 4 = .ok (.getfield 43, 3) := by decide +kernel
theorem dX4_lineX_7 : decode cX4_lineX 7 = .ok (.iload_n 1, 1) := by decide +kernel
theorem dX4_lineX_8 : decode cX4_lineX 8 = .ok (.iaload, 1) := by decide +kernel
theorem dX4_lineX_9 : decode cX4_lineX 9 = .ok (.istore 5, 2) := by decide +kernel
theorem dX4_lineX_11 : decode cX4_lineX 11 = .ok (.iload_n 3, 1) := by decide +kernel
theorem dX4_lineX_12 : decode cX4_lineX 12 = .ok (.iconst 1, 1) := by decide +kernel
theorem dX4_lineX_13 : decode cX4_lineX 13 = .ok (.iadd, 1) := by decide +kernel
theorem dX4_lineX_14 : decode cX4_lineX 14 = .ok (.istore 6, 2) := by decide +kernel
theorem dX4_lineX_16 : decode cX4_lineX 16 = .ok (.iload 5, 2) := by decide +kernel
theorem dX4_lineX_18 : decode cX4_lineX 18 = .ok (.iload 6, 2) := by decide +kernel
theorem dX4_lineX_20 : decode cX4_lineX 20 = .ok (.imul, 1) := by decide +kernel
theorem dX4_lineX_21 : decode cX4_lineX 21 = .ok (.iload_n 2, 1) := by decide +kernel
theorem dX4_lineX_22 : decode cX4_lineX 22 = .ok (.iload 5, 2) := by decide +kernel
theorem dX4_lineX_24 : decode cX4_lineX 24 = .ok (.isub, 1) := by decide +kernel
theorem dX4_lineX_25 : decode cX4_lineX 25 = .ok (.iload 4, 2) := by decide +kernel
theorem dX4_lineX_27 : decode cX4_lineX 27 = .ok (.iconst 1, 1) := by decide +kernel
theorem dX4_lineX_28 : decode cX4_lineX 28 = .ok (.iadd, 1) := by decide +kernel
theorem dX4_lineX_29 : decode cX4_lineX 29 = .ok (.imul, 1) := by decide +kernel
theorem dX4_lineX_30 : decode cX4_lineX 30 = .ok (.iadd, 1) := by decide +kernel
theorem dX4_lineX_31 : decode cX4_lineX 31 = .ok (.istore 7, 2) := by decide +kernel
theorem dX4_lineX_33 : decode cX4_lineX 33 = .ok (.iconst 2, 1) := by decide +kernel
theorem dX4_lineX_34 : decode cX4_lineX 34 = .ok (.iload 7, 2) := by decide +kernel
theorem dX4_lineX_36 : decode cX4_lineX 36 = .ok (.imul, 1) := by decide +kernel
theorem dX4_lineX_37 : decode cX4_lineX 37 = .ok (.iload 6, 2) := by decide +kernel
theorem dX4_lineX_39 : decode cX4_lineX 39 = .ok (.iadd, 1) := by decide +kernel
theorem dX4_lineX_40 : decode cX4_lineX 40 = .ok (.iconst 2, 1) := by decide +kernel
theorem dX4_lineX_41 : decode cX4_lineX 41 = .ok (.iload 6, 2) := by decide +kernel
theorem dX4_lineX_43 : decode cX4_lineX 43 = .ok (.imul, 1) := by decide +kernel
theorem dX4_lineX_44 : decode cX4_lineX 44 = .ok (.idiv, 1) := by decide +kernel
theorem dX4_lineX_45 : decode cX4_lineX 45 = .ok (.ireturn, 1) := by decide +kernel
set_option maxRecDepth 20000 in
theorem ggX4_firstBlock_X4_eyeOf : GoodIn wsX4_firstBlock wsX4_eyeOf := goodIn_r _ [8, 3, 9, 1, 10, 11, 26, 27, 28, 29, 30, 31, 32, 33, 41, 42, 43, 44, 45, 46, 47, 48, 49, 50, 51, 52, 53, 54, 34, 35, 36, 37, 38, 39, 40] (by decide +kernel) (by decide +kernel)
set_option maxRecDepth 20000 in
theorem gX4_firstBlock_X4_eyeOf : GoodIn wsX4_firstBlock (wsV RX4 46 RX4 yX4_eyeOf wsX4_eyeOf) := goodIn_app (goodIn_of _ (by decide +kernel)) ggX4_firstBlock_X4_eyeOf
set_option maxRecDepth 20000 in
theorem ggX4_firstBlock_X4_lineX : GoodIn wsX4_firstBlock wsX4_lineX := goodIn_r _ [15, 3, 16, 26, 27, 28, 29, 30, 31, 32, 33, 41, 42, 43, 44, 45, 46, 47, 48, 49, 50, 51, 52, 53, 54] (by decide +kernel) (by decide +kernel)
set_option maxRecDepth 20000 in
theorem gX4_firstBlock_X4_lineX : GoodIn wsX4_firstBlock (wsV RX4 50 RX4 yX4_lineX wsX4_lineX) := goodIn_app (goodIn_of _ (by decide +kernel)) ggX4_firstBlock_X4_lineX
set_option maxRecDepth 20000 in
theorem ggX4_firstBlock_X2_numberOf : GoodIn wsX4_firstBlock wsX2_numberOf := goodIn_r _ [21, 22, 41, 42, 43, 44, 45, 46, 47, 48, 49, 50, 51, 52, 53, 54] (by decide +kernel) (by decide +kernel)
set_option maxRecDepth 20000 in
theorem gX4_firstBlock_X2_numberOf : GoodIn wsX4_firstBlock (wsV RX4 57 RX2 yX2_numberOf wsX2_numberOf) := goodIn_app (goodIn_of _ (by decide +kernel)) ggX4_firstBlock_X2_numberOf
set_option maxRecDepth 20000 in
theorem ggX4_firstBlock_X6_placeOf : GoodIn wsX4_firstBlock wsX6_placeOf := goodIn_r _ [25] (by decide +kernel) (by decide +kernel)
set_option maxRecDepth 20000 in
theorem gX4_firstBlock_X6_placeOf_n61 : GoodIn wsX4_firstBlock (wsX6_placeOf) := ggX4_firstBlock_X6_placeOf
theorem dX4_firstBlock_0 : decode cX4_firstBlock 0 = .ok (.aload_n 0, 1) := by decide +kernel
theorem dX4_firstBlock_1 : decode cX4_firstBlock 1 = .ok (.iload_n 1, 1) := by decide +kernel
theorem dX4_firstBlock_2 : decode cX4_firstBlock 2 = .ok (.invokevirtual 46, 3) := by decide +kernel
theorem dX4_firstBlock_5 : decode cX4_firstBlock 5 = .ok (.istore 4, 2) := by decide +kernel
theorem dX4_firstBlock_7 : decode cX4_firstBlock 7 = .ok (.iconst 0, 1) := by decide +kernel
theorem dX4_firstBlock_8 : decode cX4_firstBlock 8 = .ok (.istore 5, 2) := by decide +kernel
theorem dX4_firstBlock_10 : decode cX4_firstBlock 10 = .ok (.iload 5, 2) := by decide +kernel
theorem dX4_firstBlock_12 : decode cX4_firstBlock 12 = .ok (.iload_n 3, 1) := by decide +kernel
theorem dX4_firstBlock_13 : decode cX4_firstBlock 13 = .ok (.if_icmp .ge 61, 3) := by decide +kernel
theorem dX4_firstBlock_16 : decode cX4_firstBlock 16 = .ok (.aload_n 0, 1) := by decide +kernel
theorem dX4_firstBlock_17 : decode cX4_firstBlock 17 = .ok (.iload_n 1, 1) := by decide +kernel
theorem dX4_firstBlock_18 : decode cX4_firstBlock 18 = .ok (.iload_n 2, 1) := by decide +kernel
theorem dX4_firstBlock_19 : decode cX4_firstBlock 19 = .ok (.iload_n 3, 1) := by decide +kernel
theorem dX4_firstBlock_20 : decode cX4_firstBlock 20 = .ok (.iload 5, 2) := by decide +kernel
theorem dX4_firstBlock_22 : decode cX4_firstBlock 22 = .ok (.invokevirtual 50, 3) := by decide +kernel
theorem dX4_firstBlock_25 : decode cX4_firstBlock 25 = .ok (.istore 6, 2) := by decide +kernel
theorem dX4_firstBlock_27 : decode cX4_firstBlock 27 = .ok (.aload_n 0, 1) := by decide +kernel
theorem dX4_firstBlock_28 : decode cX4_firstBlock 28 = .ok (.getfield 25, 3) := by decide +kernel
theorem dX4_firstBlock_31 : decode cX4_firstBlock 31 = .ok (.getfield 54, 3) := by decide +kernel
theorem dX4_firstBlock_34 : decode cX4_firstBlock 34 = .ok (.aload_n 0, 1) := by decide +kernel
theorem dX4_firstBlock_35 : decode cX4_firstBlock 35 = .ok (.getfield 21, 3) := by decide +kernel
theorem dX4_firstBlock_38 : decode cX4_firstBlock 38 = .ok (.iload 6, 2) := by decide +kernel
theorem dX4_firstBlock_40 : decode cX4_firstBlock 40 = .ok (.iload 5, 2) := by decide +kernel
theorem dX4_firstBlock_42 : decode cX4_firstBlock 42 = .ok (.invokevirtual 57, 3) := by decide +kernel
theorem dX4_firstBlock_45 : decode cX4_firstBlock 45 = .ok (.iaload, 1) := by decide +kernel
theorem dX4_firstBlock_46 : decode cX4_firstBlock 46 = .ok (.iload_n 3, 1) := by decide +kernel
theorem dX4_firstBlock_47 : decode cX4_firstBlock 47 = .ok (.iconst 1, 1) := by decide +kernel
theorem dX4_firstBlock_48 : decode cX4_firstBlock 48 = .ok (.iadd, 1) := by decide +kernel
theorem dX4_firstBlock_49 : decode cX4_firstBlock 49 = .ok (.imul, 1) := by decide +kernel
theorem dX4_firstBlock_50 : decode cX4_firstBlock 50 = .ok (.iload 4, 2) := by decide +kernel
theorem dX4_firstBlock_52 : decode cX4_firstBlock 52 = .ok (.iload_n 3, 1) := by decide +kernel
theorem dX4_firstBlock_53 : decode cX4_firstBlock 53 = .ok (.iload 5, 2) := by decide +kernel
theorem dX4_firstBlock_55 : decode cX4_firstBlock 55 = .ok (.isub, 1) := by decide +kernel
theorem dX4_firstBlock_56 : decode cX4_firstBlock 56 = .ok (.imul, 1) := by decide +kernel
theorem dX4_firstBlock_57 : decode cX4_firstBlock 57 = .ok (.if_icmp .le 11, 3) := by decide +kernel
theorem dX4_firstBlock_60 : decode cX4_firstBlock 60 = .ok (.iload 6, 2) := by decide +kernel
theorem dX4_firstBlock_62 : decode cX4_firstBlock 62 = .ok (.iload 5, 2) := by decide +kernel
theorem dX4_firstBlock_64 : decode cX4_firstBlock 64 = .ok (.invokestatic 61, 3) := by decide +kernel
theorem dX4_firstBlock_67 : decode cX4_firstBlock 67 = .ok (.ireturn, 1) := by decide +kernel
theorem dX4_firstBlock_68 : decode cX4_firstBlock 68 = .ok (.iinc 5 1, 3) := by decide +kernel
theorem dX4_firstBlock_71 : decode cX4_firstBlock 71 = .ok (.goto (-61), 3) := by decide +kernel
theorem dX4_firstBlock_74 : decode cX4_firstBlock 74 = .ok (.iconst (-1), 1) := by decide +kernel
theorem dX4_firstBlock_75 : decode cX4_firstBlock 75 = .ok (.ireturn, 1) := by decide +kernel
theorem dX4_inReach_0 : decode cX4_inReach 0 = .ok (.iload 4, 2) := by decide +kernel
theorem dX4_inReach_2 : decode cX4_inReach 2 = .ok (.iconst (-1), 1) := by decide +kernel
theorem dX4_inReach_3 : decode cX4_inReach 3 = .ok (.if_icmp .eq 28, 3) := by decide +kernel
theorem dX4_inReach_6 : decode cX4_inReach 6 = .ok (.iload_n 2, 1) := by decide +kernel
theorem dX4_inReach_7 : decode cX4_inReach 7 = .ok (.aload_n 0, 1) := by decide +kernel
theorem dX4_inReach_8 : decode cX4_inReach 8 = .ok (.getfield 21, 3) := by decide +kernel
theorem dX4_inReach_11 : decode cX4_inReach 11 = .ok (.getfield 43, 3) := by decide +kernel
theorem dX4_inReach_14 : decode cX4_inReach 14 = .ok (.iload_n 1, 1) := by decide +kernel
theorem dX4_inReach_15 : decode cX4_inReach 15 = .ok (.iaload, 1) := by decide +kernel
theorem dX4_inReach_16 : decode cX4_inReach 16 = .ok (.isub, 1) := by decide +kernel
theorem dX4_inReach_17 : decode cX4_inReach 17 = .ok (.invokestatic 64, 3) := by decide +kernel
theorem dX4_inReach_20 : decode cX4_inReach 20 = .ok (.iload_n 3, 1) := by decide +kernel
theorem dX4_inReach_21 : decode cX4_inReach 21 = .ok (.iconst 1, 1) := by decide +kernel
theorem dX4_inReach_22 : decode cX4_inReach 22 = .ok (.iadd, 1) := by decide +kernel
theorem dX4_inReach_23 : decode cX4_inReach 23 = .ok (.invokestatic 69, 3) := by decide +kernel
theorem dX4_inReach_26 : decode cX4_inReach 26 = .ok (.iload 4, 2) := by decide +kernel
theorem dX4_inReach_28 : decode cX4_inReach 28 = .ok (.if_icmp .gt 7, 3) := by decide +kernel
theorem dX4_inReach_31 : decode cX4_inReach 31 = .ok (.iconst 1, 1) := by decide +kernel
theorem dX4_inReach_32 : decode cX4_inReach 32 = .ok (.goto 4, 3) := by decide +kernel
theorem dX4_inReach_35 : decode cX4_inReach 35 = .ok (.iconst 0, 1) := by decide +kernel
theorem dX4_inReach_36 : decode cX4_inReach 36 = .ok (.ireturn, 1) := by decide +kernel
set_option maxRecDepth 20000 in
theorem ggX4_canSee_X4_inReach : GoodIn wsX4_canSee wsX4_inReach := goodIn_r _ [5, 6, 7, 8, 9, 10, 11, 12, 13, 14, 41, 42, 43, 44, 45, 46, 47, 48, 49, 50, 51, 52, 53, 54, 55, 56, 57, 58, 59, 60, 61, 62] (by decide +kernel) (by decide +kernel)
set_option maxRecDepth 20000 in
theorem gX4_canSee_X4_inReach : GoodIn wsX4_canSee (wsV RX4 72 RX4 yX4_inReach wsX4_inReach) := goodIn_app (goodIn_of _ (by decide +kernel)) ggX4_canSee_X4_inReach
set_option maxRecDepth 20000 in
theorem ggX4_canSee_X4_firstBlock : GoodIn wsX4_canSee wsX4_firstBlock := goodIn_r _ [18, 19, 20, 6, 21, 22, 23, 4, 24, 25, 26, 27, 28, 29, 30, 31, 7, 32, 33, 34, 35, 36, 37, 38, 39, 40, 41, 42, 43, 44, 45, 46, 47, 48, 63, 64, 65, 66, 67, 68, 69, 49, 50, 51, 52, 53, 54, 55, 56, 57, 58, 59, 60, 61, 62] (by decide +kernel) (by decide +kernel)
set_option maxRecDepth 20000 in
theorem gX4_canSee_X4_firstBlock : GoodIn wsX4_canSee (wsV RX4 76 RX4 yX4_firstBlock wsX4_firstBlock) := goodIn_app (goodIn_of _ (by decide +kernel)) ggX4_canSee_X4_firstBlock
theorem dX4_canSee_0 : decode cX4_canSee 0 = .ok (.aload_n 0, 1) := by decide +kernel
theorem dX4_canSee_1 : decode cX4_canSee 1 = .ok (.iload_n 1, 1) := by decide +kernel
theorem dX4_canSee_2 : decode cX4_canSee 2 = .ok (.iload_n 2, 1) := by decide +kernel
theorem dX4_canSee_3 : decode cX4_canSee 3 = .ok (.iload_n 3, 1) := by decide +kernel
theorem dX4_canSee_4 : decode cX4_canSee 4 = .ok (.iload 4, 2) := by decide +kernel
theorem dX4_canSee_6 : decode cX4_canSee 6 = .ok (.invokevirtual 72, 3) := by decide +kernel
theorem dX4_canSee_9 : decode cX4_canSee 9 = .ok (.ifCond .eq 18, 3) := by decide +kernel
theorem dX4_canSee_12 : decode cX4_canSee 12 = .ok (.aload_n 0, 1) := by decide +kernel
theorem dX4_canSee_13 : decode cX4_canSee 13 = .ok (.iload_n 1, 1) := by decide +kernel
theorem dX4_canSee_14 : decode cX4_canSee 14 = .ok (.iload_n 2, 1) := by decide +kernel
theorem dX4_canSee_15 : decode cX4_canSee 15 = .ok (.iload_n 3, 1) := by decide +kernel
theorem dX4_canSee_16 : decode cX4_canSee 16 = .ok (.invokevirtual 76, 3) := by decide +kernel
theorem dX4_canSee_19 : decode cX4_canSee 19 = .ok (.iconst (-1), 1) := by decide +kernel
theorem dX4_canSee_20 : decode cX4_canSee 20 = .ok (.if_icmp .ne 7, 3) := by decide +kernel
theorem dX4_canSee_23 : decode cX4_canSee 23 = .ok (.iconst 1, 1) := by decide +kernel
theorem dX4_canSee_24 : decode cX4_canSee 24 = .ok (.goto 4, 3) := by decide +kernel
theorem dX4_canSee_27 : decode cX4_canSee 27 = .ok (.iconst 0, 1) := by decide +kernel
theorem dX4_canSee_28 : decode cX4_canSee 28 = .ok (.ireturn, 1) := by decide +kernel
set_option maxRecDepth 20000 in
theorem ggX4_note_X2_numberOf : GoodIn wsX4_note wsX2_numberOf := goodIn_r _ [7, 8, 17, 18, 19, 20, 21, 22, 23, 24, 25, 26, 27, 28, 29, 30] (by decide +kernel) (by decide +kernel)
set_option maxRecDepth 20000 in
theorem gX4_note_X2_numberOf : GoodIn wsX4_note (wsV RX4 57 RX2 yX2_numberOf wsX2_numberOf) := goodIn_app (goodIn_of _ (by decide +kernel)) ggX4_note_X2_numberOf
theorem dX4_note_0 : decode cX4_note 0 = .ok (.aload_n 0, 1) := by decide +kernel
theorem dX4_note_1 : decode cX4_note 1 = .ok (.getfield 21, 3) := by decide +kernel
theorem dX4_note_4 : decode cX4_note 4 = .ok (.iload_n 2, 1) := by decide +kernel
theorem dX4_note_5 : decode cX4_note 5 = .ok (.iload_n 3, 1) := by decide +kernel
theorem dX4_note_6 : decode cX4_note 6 = .ok (.invokevirtual 57, 3) := by decide +kernel
theorem dX4_note_9 : decode cX4_note 9 = .ok (.istore 5, 2) := by decide +kernel
theorem dX4_note_11 : decode cX4_note 11 = .ok (.iload 4, 2) := by decide +kernel
theorem dX4_note_13 : decode cX4_note 13 = .ok (.ifCond .eq 19, 3) := by decide +kernel
theorem dX4_note_16 : decode cX4_note 16 = .ok (.aload_n 0, 1) := by decide +kernel
theorem dX4_note_17 : decode cX4_note 17 = .ok (.getfield 9, 3) := by decide +kernel
theorem dX4_note_20 : decode cX4_note 20 = .ok (.iload 5, 2) := by decide +kernel
theorem dX4_note_22 : decode cX4_note 22 = .ok (.dup2, 1) := by decide +kernel
theorem dX4_note_23 : decode cX4_note 23 = .ok (.iaload, 1) := by decide +kernel
theorem dX4_note_24 : decode cX4_note 24 = .ok (.iconst 1, 1) := by decide +kernel
theorem dX4_note_25 : decode cX4_note 25 = .ok (.iload_n 1, 1) := by decide +kernel
theorem dX4_note_26 : decode cX4_note 26 = .ok (.ishl, 1) := by decide +kernel
theorem dX4_note_27 : decode cX4_note 27 = .ok (.ior, 1) := by decide +kernel
theorem dX4_note_28 : decode cX4_note 28 = .ok (.iastore, 1) := by decide +kernel
theorem dX4_note_29 : decode cX4_note 29 = .ok (.goto 18, 3) := by decide +kernel
theorem dX4_note_32 : decode cX4_note 32 = .ok (.aload_n 0, 1) := by decide +kernel
theorem dX4_note_33 : decode cX4_note 33 = .ok (.getfield 9, 3) := by decide +kernel
theorem dX4_note_36 : decode cX4_note 36 = .ok (.iload 5, 2) := by decide +kernel
theorem dX4_note_38 : decode cX4_note 38 = .ok (.dup2, 1) := by decide +kernel
theorem dX4_note_39 : decode cX4_note 39 = .ok (.iaload, 1) := by decide +kernel
theorem dX4_note_40 : decode cX4_note 40 = .ok (.iconst 1, 1) := by decide +kernel
theorem dX4_note_41 : decode cX4_note 41 = .ok (.iload_n 1, 1) := by decide +kernel
theorem dX4_note_42 : decode cX4_note 42 = .ok (.ishl, 1) := by decide +kernel
theorem dX4_note_43 : decode cX4_note 43 = .ok (.iconst (-1), 1) := by decide +kernel
theorem dX4_note_44 : decode cX4_note 44 = .ok (.ixor, 1) := by decide +kernel
theorem dX4_note_45 : decode cX4_note 45 = .ok (.iand, 1) := by decide +kernel
theorem dX4_note_46 : decode cX4_note 46 = .ok (.iastore, 1) := by decide +kernel
theorem dX4_note_47 : decode cX4_note 47 = .ok (.return_, 1) := by decide +kernel
set_option maxRecDepth 20000 in
theorem ggX4_lookBy_X2_farOn : GoodIn wsX4_lookBy wsX2_farOn := goodIn_r _ [10, 11, 12, 13, 14, 76, 77, 78, 79, 80, 81, 82, 83, 84, 85, 86, 87, 88, 89] (by decide +kernel) (by decide +kernel)
set_option maxRecDepth 20000 in
theorem gX4_lookBy_X2_farOn : GoodIn wsX4_lookBy (wsV RX4 83 RX2 yX2_farOn wsX2_farOn) := goodIn_app (goodIn_of _ (by decide +kernel)) ggX4_lookBy_X2_farOn
set_option maxRecDepth 20000 in
theorem ggX4_lookBy_X4_canSee : GoodIn wsX4_lookBy wsX4_canSee := goodIn_r _ [19, 20, 21, 22, 18, 23, 1, 24, 25, 26, 27, 28, 29, 30, 31, 32, 33, 34, 35, 2, 36, 37, 38, 39, 40, 41, 42, 43, 44, 45, 46, 47, 48, 49, 50, 9, 51, 52, 53, 54, 55, 61, 62, 63, 64, 65, 66, 67, 68, 76, 77, 78, 79, 80, 81, 82, 83, 84, 85, 86, 87, 88, 89, 69, 70, 71, 72, 73, 74, 75] (by decide +kernel) (by decide +kernel)
set_option maxRecDepth 20000 in
theorem gX4_lookBy_X4_canSee : GoodIn wsX4_lookBy (wsV RX4 92 RX4 yX4_canSee wsX4_canSee) := goodIn_app (goodIn_of _ (by decide +kernel)) ggX4_lookBy_X4_canSee
set_option maxRecDepth 20000 in
theorem ggX4_lookBy_X4_note : GoodIn wsX4_lookBy wsX4_note := goodIn_r _ [59, 1, 60, 48, 49, 50, 9, 51, 52, 61, 62, 63, 64, 65, 66, 67, 68, 76, 77, 78, 79, 80, 81, 82, 83, 84, 85, 86, 87, 88, 89] (by decide +kernel) (by decide +kernel)
set_option maxRecDepth 20000 in
theorem gX4_lookBy_X4_note : GoodIn wsX4_lookBy (wsV RX4 95 RX4 yX4_note wsX4_note) := goodIn_app (goodIn_of _ (by decide +kernel)) ggX4_lookBy_X4_note
theorem dX4_lookBy_0 : decode cX4_lookBy 0 = .ok (.aload_n 0, 1) := by decide +kernel
theorem dX4_lookBy_1 : decode cX4_lookBy 1 = .ok (.getfield 21, 3) := by decide +kernel
theorem dX4_lookBy_4 : decode cX4_lookBy 4 = .ok (.aload_n 0, 1) := by decide +kernel
theorem dX4_lookBy_5 : decode cX4_lookBy 5 = .ok (.getfield 25, 3) := by decide +kernel
theorem dX4_lookBy_8 : decode cX4_lookBy 8 = .ok (.getfield 80, 3) := by decide +kernel
theorem dX4_lookBy_11 : decode cX4_lookBy 11 = .ok (.invokevirtual 83, 3) := by decide +kernel
theorem dX4_lookBy_14 : decode cX4_lookBy 14 = .ok (.istore_n 2, 1) := by decide +kernel
theorem dX4_lookBy_15 : decode cX4_lookBy 15 = .ok (.iconst 0, 1) := by decide +kernel
theorem dX4_lookBy_16 : decode cX4_lookBy 16 = .ok (.istore_n 3, 1) := by decide +kernel
theorem dX4_lookBy_17 : decode cX4_lookBy 17 = .ok (.iload_n 3, 1) := by decide +kernel
theorem dX4_lookBy_18 : decode cX4_lookBy 18 = .ok (.aload_n 0, 1) := by decide +kernel
theorem dX4_lookBy_19 : decode cX4_lookBy 19 = .ok (.getfield 21, 3) := by decide +kernel
theorem dX4_lookBy_22 : decode cX4_lookBy 22 = .ok (.getfield 86, 3) := by decide +kernel
theorem dX4_lookBy_25 : decode cX4_lookBy 25 = .ok (.if_icmp .ge 47, 3) := by decide +kernel
theorem dX4_lookBy_28 : decode cX4_lookBy 28 = .ok (.iconst 0, 1) := by decide +kernel
theorem dX4_lookBy_29 : decode cX4_lookBy 29 = .ok (.istore 4, 2) := by decide +kernel
theorem dX4_lookBy_31 : decode cX4_lookBy 31 = .ok (.iload 4, 2) := by decide +kernel
theorem dX4_lookBy_33 : decode cX4_lookBy 33 = .ok (.aload_n 0, 1) := by decide +kernel
theorem dX4_lookBy_34 : decode cX4_lookBy 34 = .ok (.getfield 21, 3) := by decide +kernel
theorem dX4_lookBy_37 : decode cX4_lookBy 37 = .ok (.getfield 89, 3) := by decide +kernel
theorem dX4_lookBy_40 : decode cX4_lookBy 40 = .ok (.if_icmp .ge 26, 3) := by decide +kernel
theorem dX4_lookBy_43 : decode cX4_lookBy 43 = .ok (.aload_n 0, 1) := by decide +kernel
theorem dX4_lookBy_44 : decode cX4_lookBy 44 = .ok (.iload_n 1, 1) := by decide +kernel
theorem dX4_lookBy_45 : decode cX4_lookBy 45 = .ok (.iload 4, 2) := by decide +kernel
theorem dX4_lookBy_47 : decode cX4_lookBy 47 = .ok (.iload_n 3, 1) := by decide +kernel
theorem dX4_lookBy_48 : decode cX4_lookBy 48 = .ok (.aload_n 0, 1) := by decide +kernel
theorem dX4_lookBy_49 : decode cX4_lookBy 49 = .ok (.iload_n 1, 1) := by decide +kernel
theorem dX4_lookBy_50 : decode cX4_lookBy 50 = .ok (.iload 4, 2) := by decide +kernel
theorem dX4_lookBy_52 : decode cX4_lookBy 52 = .ok (.iload_n 3, 1) := by decide +kernel
theorem dX4_lookBy_53 : decode cX4_lookBy 53 = .ok (.iload_n 2, 1) := by decide +kernel
theorem dX4_lookBy_54 : decode cX4_lookBy 54 = .ok (.invokevirtual 92, 3) := by decide +kernel
theorem dX4_lookBy_57 : decode cX4_lookBy 57 = .ok (.invokevirtual 95, 3) := by decide +kernel
theorem dX4_lookBy_60 : decode cX4_lookBy 60 = .ok (.iinc 4 1, 3) := by decide +kernel
theorem dX4_lookBy_63 : decode cX4_lookBy 63 = .ok (.goto (-32), 3) := by decide +kernel
theorem dX4_lookBy_66 : decode cX4_lookBy 66 = .ok (.iinc 3 1, 3) := by decide +kernel
theorem dX4_lookBy_69 : decode cX4_lookBy 69 = .ok (.goto (-52), 3) := by decide +kernel
theorem dX4_lookBy_72 : decode cX4_lookBy 72 = .ok (.return_, 1) := by decide +kernel
set_option maxRecDepth 20000 in
theorem ggX4_lookAll_X4_lookBy : GoodIn wsX4_lookAll wsX4_lookBy := goodIn_r _ [8, 2, 9, 10, 11, 12, 13, 14, 15, 16, 17, 18, 19, 20, 21, 22, 23, 24, 7, 25, 26, 27, 28, 29, 30, 31, 32, 33, 34, 35, 36, 37, 38, 39, 40, 41, 42, 43, 44, 45, 46, 47, 48, 49, 50, 51, 52, 53, 54, 55, 56, 57, 58, 59, 60, 61, 62, 63, 64, 65, 1, 66, 67, 68, 69, 70, 71, 72, 73, 88, 89, 90, 91, 92, 93, 94, 74, 75, 76, 77, 78, 79, 80, 81, 82, 83, 84, 85, 86, 87] (by decide +kernel) (by decide +kernel)
set_option maxRecDepth 20000 in
theorem gX4_lookAll_X4_lookBy : GoodIn wsX4_lookAll (wsV RX4 102 RX4 yX4_lookBy wsX4_lookBy) := goodIn_app (goodIn_of _ (by decide +kernel)) ggX4_lookAll_X4_lookBy
theorem dX4_lookAll_0 : decode cX4_lookAll 0 = .ok (.iconst 0, 1) := by decide +kernel
theorem dX4_lookAll_1 : decode cX4_lookAll 1 = .ok (.istore_n 1, 1) := by decide +kernel
theorem dX4_lookAll_2 : decode cX4_lookAll 2 = .ok (.iload_n 1, 1) := by decide +kernel
theorem dX4_lookAll_3 : decode cX4_lookAll 3 = .ok (.bipush 60, 2) := by decide +kernel
theorem dX4_lookAll_5 : decode cX4_lookAll 5 = .ok (.if_icmp .ge 16, 3) := by decide +kernel
theorem dX4_lookAll_8 : decode cX4_lookAll 8 = .ok (.aload_n 0, 1) := by decide +kernel
theorem dX4_lookAll_9 : decode cX4_lookAll 9 = .ok (.getfield 9, 3) := by decide +kernel
theorem dX4_lookAll_12 : decode cX4_lookAll 12 = .ok (.iload_n 1, 1) := by decide +kernel
theorem dX4_lookAll_13 : decode cX4_lookAll 13 = .ok (.iconst 0, 1) := by decide +kernel
theorem dX4_lookAll_14 : decode cX4_lookAll 14 = .ok (.iastore, 1) := by decide +kernel
theorem dX4_lookAll_15 : decode cX4_lookAll 15 = .ok (.iinc 1 1, 3) := by decide +kernel
theorem dX4_lookAll_18 : decode cX4_lookAll 18 = .ok (.goto (-16), 3) := by decide +kernel
theorem dX4_lookAll_21 : decode cX4_lookAll 21 = .ok (.iconst 0, 1) := by decide +kernel
theorem dX4_lookAll_22 : decode cX4_lookAll 22 = .ok (.istore_n 1, 1) := by decide +kernel
theorem dX4_lookAll_23 : decode cX4_lookAll 23 = .ok (.iload_n 1, 1) := by decide +kernel
theorem dX4_lookAll_24 : decode cX4_lookAll 24 = .ok (.aload_n 0, 1) := by decide +kernel
theorem dX4_lookAll_25 : decode cX4_lookAll 25 = .ok (.getfield 21, 3) := by decide +kernel
theorem dX4_lookAll_28 : decode cX4_lookAll 28 = .ok (.getfield 99, 3) := by decide +kernel
theorem dX4_lookAll_31 : decode cX4_lookAll 31 = .ok (.if_icmp .ge 14, 3) := by decide +kernel
theorem dX4_lookAll_34 : decode cX4_lookAll 34 = .ok (.aload_n 0, 1) := by decide +kernel
theorem dX4_lookAll_35 : decode cX4_lookAll 35 = .ok (.iload_n 1, 1) := by decide +kernel
theorem dX4_lookAll_36 : decode cX4_lookAll 36 = .ok (.invokevirtual 102, 3) := by decide +kernel
theorem dX4_lookAll_39 : decode cX4_lookAll 39 = .ok (.iinc 1 1, 3) := by decide +kernel
theorem dX4_lookAll_42 : decode cX4_lookAll 42 = .ok (.goto (-19), 3) := by decide +kernel
theorem dX4_lookAll_45 : decode cX4_lookAll 45 = .ok (.return_, 1) := by decide +kernel
set_option maxRecDepth 20000 in
theorem ggX4_lookOver_X2_farOn : GoodIn wsX4_lookOver wsX2_farOn := goodIn_r _ [11, 12, 13, 14, 15, 77, 78, 79, 80, 81, 82, 83, 84, 85, 86, 87, 88, 89, 90] (by decide +kernel) (by decide +kernel)
set_option maxRecDepth 20000 in
theorem gX4_lookOver_X2_farOn : GoodIn wsX4_lookOver (wsV RX4 83 RX2 yX2_farOn wsX2_farOn) := goodIn_app (goodIn_of _ (by decide +kernel)) ggX4_lookOver_X2_farOn
set_option maxRecDepth 20000 in
theorem ggX4_lookOver_X4_lineX : GoodIn wsX4_lookOver wsX4_lineX := goodIn_r _ [20, 1, 21, 62, 63, 64, 65, 66, 67, 68, 69, 77, 78, 79, 80, 81, 82, 83, 84, 85, 86, 87, 88, 89, 90] (by decide +kernel) (by decide +kernel)
set_option maxRecDepth 20000 in
theorem gX4_lookOver_X4_lineX : GoodIn wsX4_lookOver (wsV RX4 50 RX4 yX4_lineX wsX4_lineX) := goodIn_app (goodIn_of _ (by decide +kernel)) ggX4_lookOver_X4_lineX
set_option maxRecDepth 20000 in
theorem ggX4_lookOver_X4_canSee : GoodIn wsX4_lookOver wsX4_canSee := goodIn_r _ [25, 26, 27, 28, 19, 29, 1, 21, 30, 31, 32, 33, 34, 35, 36, 37, 38, 39, 40, 2, 41, 42, 43, 44, 45, 46, 47, 48, 16, 17, 18, 20, 49, 50, 51, 10, 52, 53, 54, 55, 56, 62, 63, 64, 65, 66, 67, 68, 69, 77, 78, 79, 80, 81, 82, 83, 84, 85, 86, 87, 88, 89, 90, 70, 71, 72, 73, 74, 75, 76] (by decide +kernel) (by decide +kernel)
set_option maxRecDepth 20000 in
theorem gX4_lookOver_X4_canSee : GoodIn wsX4_lookOver (wsV RX4 92 RX4 yX4_canSee wsX4_canSee) := goodIn_app (goodIn_of _ (by decide +kernel)) ggX4_lookOver_X4_canSee
set_option maxRecDepth 20000 in
theorem ggX4_lookOver_X4_note : GoodIn wsX4_lookOver wsX4_note := goodIn_r _ [60, 1, 61, 49, 50, 51, 10, 52, 53, 62, 63, 64, 65, 66, 67, 68, 69, 77, 78, 79, 80, 81, 82, 83, 84, 85, 86, 87, 88, 89, 90] (by decide +kernel) (by decide +kernel)
set_option maxRecDepth 20000 in
theorem gX4_lookOver_X4_note : GoodIn wsX4_lookOver (wsV RX4 95 RX4 yX4_note wsX4_note) := goodIn_app (goodIn_of _ (by decide +kernel)) ggX4_lookOver_X4_note
theorem dX4_lookOver_0 : decode cX4_lookOver 0 = .ok (.aload_n 0, 1) := by decide +kernel
theorem dX4_lookOver_1 : decode cX4_lookOver 1 = .ok (.getfield 21, 3) := by decide +kernel
theorem dX4_lookOver_4 : decode cX4_lookOver 4 = .ok (.aload_n 0, 1) := by decide +kernel
theorem dX4_lookOver_5 : decode cX4_lookOver 5 = .ok (.getfield 25, 3) := by decide +kernel
theorem dX4_lookOver_8 : decode cX4_lookOver 8 = .ok (.getfield 80, 3) := by decide +kernel
theorem dX4_lookOver_11 : decode cX4_lookOver 11 = .ok (.invokevirtual 83, 3) := by decide +kernel
theorem dX4_lookOver_14 : decode cX4_lookOver 14 = .ok (.istore_n 3, 1) := by decide +kernel
theorem dX4_lookOver_15 : decode cX4_lookOver 15 = .ok (.iconst 0, 1) := by decide +kernel
theorem dX4_lookOver_16 : decode cX4_lookOver 16 = .ok (.istore 4, 2) := by decide +kernel
theorem dX4_lookOver_18 : decode cX4_lookOver 18 = .ok (.iload 4, 2) := by decide +kernel
theorem dX4_lookOver_20 : decode cX4_lookOver 20 = .ok (.aload_n 0, 1) := by decide +kernel
theorem dX4_lookOver_21 : decode cX4_lookOver 21 = .ok (.getfield 21, 3) := by decide +kernel
theorem dX4_lookOver_24 : decode cX4_lookOver 24 = .ok (.getfield 99, 3) := by decide +kernel
theorem dX4_lookOver_27 : decode cX4_lookOver 27 = .ok (.if_icmp .ge 89, 3) := by decide +kernel
theorem dX4_lookOver_30 : decode cX4_lookOver 30 = .ok (.iload_n 2, 1) := by decide +kernel
theorem dX4_lookOver_31 : decode cX4_lookOver 31 = .ok (.iconst 1, 1) := by decide +kernel
theorem dX4_lookOver_32 : decode cX4_lookOver 32 = .ok (.iadd, 1) := by decide +kernel
theorem dX4_lookOver_33 : decode cX4_lookOver 33 = .ok (.istore 5, 2) := by decide +kernel
theorem dX4_lookOver_35 : decode cX4_lookOver 35 = .ok (.iload 5, 2) := by decide +kernel
theorem dX4_lookOver_37 : decode cX4_lookOver 37 = .ok (.aload_n 0, 1) := by decide +kernel
theorem dX4_lookOver_38 : decode cX4_lookOver 38 = .ok (.getfield 21, 3) := by decide +kernel
theorem dX4_lookOver_41 : decode cX4_lookOver 41 = .ok (.getfield 86, 3) := by decide +kernel
theorem dX4_lookOver_44 : decode cX4_lookOver 44 = .ok (.if_icmp .ge 66, 3) := by decide +kernel
theorem dX4_lookOver_47 : decode cX4_lookOver 47 = .ok (.iconst 0, 1) := by decide +kernel
theorem dX4_lookOver_48 : decode cX4_lookOver 48 = .ok (.istore 6, 2) := by decide +kernel
theorem dX4_lookOver_50 : decode cX4_lookOver 50 = .ok (.iload 6, 2) := by decide +kernel
theorem dX4_lookOver_52 : decode cX4_lookOver 52 = .ok (.aload_n 0, 1) := by decide +kernel
theorem dX4_lookOver_53 : decode cX4_lookOver 53 = .ok (.getfield 21, 3) := by decide +kernel
theorem dX4_lookOver_56 : decode cX4_lookOver 56 = .ok (.getfield 89, 3) := by decide +kernel
theorem dX4_lookOver_59 : decode cX4_lookOver 59 = .ok (.if_icmp .ge 45, 3) := by decide +kernel
theorem dX4_lookOver_62 : decode cX4_lookOver 62 = .ok (.aload_n 0, 1) := by decide +kernel
theorem dX4_lookOver_63 : decode cX4_lookOver 63 = .ok (.iload 4, 2) := by decide +kernel
theorem dX4_lookOver_65 : decode cX4_lookOver 65 = .ok (.iload 6, 2) := by decide +kernel
theorem dX4_lookOver_67 : decode cX4_lookOver 67 = .ok (.iload 5, 2) := by decide +kernel
theorem dX4_lookOver_69 : decode cX4_lookOver 69 = .ok (.iload_n 2, 1) := by decide +kernel
theorem dX4_lookOver_70 : decode cX4_lookOver 70 = .ok (.invokevirtual 50, 3) := by decide +kernel
theorem dX4_lookOver_73 : decode cX4_lookOver 73 = .ok (.iload_n 1, 1) := by decide +kernel
theorem dX4_lookOver_74 : decode cX4_lookOver 74 = .ok (.if_icmp .ne 24, 3) := by decide +kernel
theorem dX4_lookOver_77 : decode cX4_lookOver 77 = .ok (.aload_n 0, 1) := by decide +kernel
theorem dX4_lookOver_78 : decode cX4_lookOver 78 = .ok (.iload 4, 2) := by decide +kernel
theorem dX4_lookOver_80 : decode cX4_lookOver 80 = .ok (.iload 6, 2) := by decide +kernel
theorem dX4_lookOver_82 : decode cX4_lookOver 82 = .ok (.iload 5, 2) := by decide +kernel
theorem dX4_lookOver_84 : decode cX4_lookOver 84 = .ok (.aload_n 0, 1) := by decide +kernel
theorem dX4_lookOver_85 : decode cX4_lookOver 85 = .ok (.iload 4, 2) := by decide +kernel
theorem dX4_lookOver_87 : decode cX4_lookOver 87 = .ok (.iload 6, 2) := by decide +kernel
theorem dX4_lookOver_89 : decode cX4_lookOver 89 = .ok (.iload 5, 2) := by decide +kernel
theorem dX4_lookOver_91 : decode cX4_lookOver 91 = .ok (.iload_n 3, 1) := by decide +kernel
theorem dX4_lookOver_92 : decode cX4_lookOver 92 = .ok (.invokevirtual 92, 3) := by decide +kernel
theorem dX4_lookOver_95 : decode cX4_lookOver 95 = .ok (.invokevirtual 95, 3) := by decide +kernel
theorem dX4_lookOver_98 : decode cX4_lookOver 98 = .ok (.iinc 6 1, 3) := by decide +kernel
theorem dX4_lookOver_101 : decode cX4_lookOver 101 = .ok (.goto (-51), 3) := by decide +kernel
theorem dX4_lookOver_104 : decode cX4_lookOver 104 = .ok (.iinc 5 1, 3) := by decide +kernel
theorem dX4_lookOver_107 : decode cX4_lookOver 107 = .ok (.goto (-72), 3) := by decide +kernel
theorem dX4_lookOver_110 : decode cX4_lookOver 110 = .ok (.iinc 4 1, 3) := by decide +kernel
theorem dX4_lookOver_113 : decode cX4_lookOver 113 = .ok (.goto (-95), 3) := by decide +kernel
theorem dX4_lookOver_116 : decode cX4_lookOver 116 = .ok (.return_, 1) := by decide +kernel
set_option maxRecDepth 20000 in
theorem ggX4_ownersOf_X2_numberOf : GoodIn wsX4_ownersOf wsX2_numberOf := goodIn_r _ [9, 10, 51, 52, 53, 54, 55, 56, 57, 58, 59, 60, 61, 62, 63, 64] (by decide +kernel) (by decide +kernel)
set_option maxRecDepth 20000 in
theorem gX4_ownersOf_X2_numberOf : GoodIn wsX4_ownersOf (wsV RX4 57 RX2 yX2_numberOf wsX2_numberOf) := goodIn_app (goodIn_of _ (by decide +kernel)) ggX4_ownersOf_X2_numberOf
set_option maxRecDepth 20000 in
theorem ggX4_ownersOf_X4_nearestOf : GoodIn wsX4_ownersOf wsX4_nearestOf := goodIn_r _ [15, 2, 16, 17, 18, 19, 20, 21, 22, 23, 24, 36, 37, 38, 39, 40, 41, 42, 43, 51, 52, 53, 54, 55, 56, 57, 58, 59, 60, 61, 62, 63, 64] (by decide +kernel) (by decide +kernel)
set_option maxRecDepth 20000 in
theorem gX4_ownersOf_X4_nearestOf : GoodIn wsX4_ownersOf (wsV RX4 109 RX4 yX4_nearestOf wsX4_nearestOf) := goodIn_app (goodIn_of _ (by decide +kernel)) ggX4_ownersOf_X4_nearestOf
set_option maxRecDepth 20000 in
theorem ggX4_ownersOf_X4_highestOf : GoodIn wsX4_ownersOf wsX4_highestOf := goodIn_r _ [28, 2, 16, 22, 23, 24, 29, 30, 31, 14, 32, 33, 3, 34, 35, 36, 37, 38, 39, 40, 41, 42, 43, 51, 52, 53, 54, 55, 56, 57, 58, 59, 60, 61, 62, 63, 64, 44, 45, 46, 47, 48, 49, 50] (by decide +kernel) (by decide +kernel)
set_option maxRecDepth 20000 in
theorem gX4_ownersOf_X4_highestOf : GoodIn wsX4_ownersOf (wsV RX4 112 RX4 yX4_highestOf wsX4_highestOf) := goodIn_app (goodIn_of _ (by decide +kernel)) ggX4_ownersOf_X4_highestOf
theorem dX4_ownersOf_0 : decode cX4_ownersOf 0 = .ok (.aload_n 0, 1) := by decide +kernel
theorem dX4_ownersOf_1 : decode cX4_ownersOf 1 = .ok (.getfield 9, 3) := by decide +kernel
theorem dX4_ownersOf_4 : decode cX4_ownersOf 4 = .ok (.aload_n 0, 1) := by decide +kernel
theorem dX4_ownersOf_5 : decode cX4_ownersOf 5 = .ok (.getfield 21, 3) := by decide +kernel
theorem dX4_ownersOf_8 : decode cX4_ownersOf 8 = .ok (.iload_n 1, 1) := by decide +kernel
theorem dX4_ownersOf_9 : decode cX4_ownersOf 9 = .ok (.iload_n 2, 1) := by decide +kernel
theorem dX4_ownersOf_10 : decode cX4_ownersOf 10 = .ok (.invokevirtual 57, 3) := by decide +kernel
theorem dX4_ownersOf_13 : decode cX4_ownersOf 13 = .ok (.iaload, 1) := by decide +kernel
theorem dX4_ownersOf_14 : decode cX4_ownersOf 14 = .ok (.istore_n 3, 1) := by decide +kernel
theorem dX4_ownersOf_15 : decode cX4_ownersOf 15 = .ok (.iload_n 3, 1) := by decide +kernel
theorem dX4_ownersOf_16 : decode cX4_ownersOf 16 = .ok (.ifCond .eq 13, 3) := by decide +kernel
theorem dX4_ownersOf_19 : decode cX4_ownersOf 19 = .ok (.aload_n 0, 1) := by decide +kernel
theorem dX4_ownersOf_20 : decode cX4_ownersOf 20 = .ok (.getfield 25, 3) := by decide +kernel
theorem dX4_ownersOf_23 : decode cX4_ownersOf 23 = .ok (.getfield 106, 3) := by decide +kernel
theorem dX4_ownersOf_26 : decode cX4_ownersOf 26 = .ok (.ifCond .ne 5, 3) := by decide +kernel
theorem dX4_ownersOf_29 : decode cX4_ownersOf 29 = .ok (.iload_n 3, 1) := by decide +kernel
theorem dX4_ownersOf_30 : decode cX4_ownersOf 30 = .ok (.ireturn, 1) := by decide +kernel
theorem dX4_ownersOf_31 : decode cX4_ownersOf 31 = .ok (.iconst 1, 1) := by decide +kernel
theorem dX4_ownersOf_32 : decode cX4_ownersOf 32 = .ok (.aload_n 0, 1) := by decide +kernel
theorem dX4_ownersOf_33 : decode cX4_ownersOf 33 = .ok (.getfield 25, 3) := by decide +kernel
theorem dX4_ownersOf_36 : decode cX4_ownersOf 36 = .ok (.getfield 106, 3) := by decide +kernel
theorem dX4_ownersOf_39 : decode cX4_ownersOf 39 = .ok (.iconst 1, 1) := by decide +kernel
theorem dX4_ownersOf_40 : decode cX4_ownersOf 40 = .ok (.if_icmp .ne 13, 3) := by decide +kernel
theorem dX4_ownersOf_43 : decode cX4_ownersOf 43 = .ok (.aload_n 0, 1) := by decide +kernel
theorem dX4_ownersOf_44 : decode cX4_ownersOf 44 = .ok (.iload_n 3, 1) := by decide +kernel
theorem dX4_ownersOf_45 : decode cX4_ownersOf 45 = .ok (.iload_n 1, 1) := by decide +kernel
theorem dX4_ownersOf_46 : decode cX4_ownersOf 46 = .ok (.iload_n 2, 1) := by decide +kernel
theorem dX4_ownersOf_47 : decode cX4_ownersOf 47 = .ok (.invokevirtual 109, 3) := by decide +kernel
theorem dX4_ownersOf_50 : decode cX4_ownersOf 50 = .ok (.goto 8, 3) := by decide +kernel
theorem dX4_ownersOf_53 : decode cX4_ownersOf 53 = .ok (.aload_n 0, 1) := by decide +kernel
theorem dX4_ownersOf_54 : decode cX4_ownersOf 54 = .ok (.iload_n 3, 1) := by decide +kernel
theorem dX4_ownersOf_55 : decode cX4_ownersOf 55 = .ok (.invokevirtual 112, 3) := by decide +kernel
theorem dX4_ownersOf_58 : decode cX4_ownersOf 58 = .ok (.ishl, 1) := by decide +kernel
theorem dX4_ownersOf_59 : decode cX4_ownersOf 59 = .ok (.ireturn, 1) := by decide +kernel
set_option maxRecDepth 20000 in
theorem ggX4_nearestOf_X6_holds : GoodIn wsX4_nearestOf wsX6_holds := goodIn_r _ [10] (by decide +kernel) (by decide +kernel)
set_option maxRecDepth 20000 in
theorem gX4_nearestOf_X6_holds_n115 : GoodIn wsX4_nearestOf (wsX6_holds) := ggX4_nearestOf_X6_holds
theorem dX4_nearestOf_0 : decode cX4_nearestOf 0 = .ok (.iconst (-1), 1) := by decide +kernel
theorem dX4_nearestOf_1 : decode cX4_nearestOf 1 = .ok (.istore 4, 2) := by decide +kernel
theorem dX4_nearestOf_3 : decode cX4_nearestOf 3 = .ok (.iconst 0, 1) := by decide +kernel
theorem dX4_nearestOf_4 : decode cX4_nearestOf 4 = .ok (.istore 5, 2) := by decide +kernel
theorem dX4_nearestOf_6 : decode cX4_nearestOf 6 = .ok (.iconst 0, 1) := by decide +kernel
theorem dX4_nearestOf_7 : decode cX4_nearestOf 7 = .ok (.istore 6, 2) := by decide +kernel
theorem dX4_nearestOf_9 : decode cX4_nearestOf 9 = .ok (.iload 6, 2) := by decide +kernel
theorem dX4_nearestOf_11 : decode cX4_nearestOf 11 = .ok (.aload_n 0, 1) := by decide +kernel
theorem dX4_nearestOf_12 : decode cX4_nearestOf 12 = .ok (.getfield 21, 3) := by decide +kernel
theorem dX4_nearestOf_15 : decode cX4_nearestOf 15 = .ok (.getfield 99, 3) := by decide +kernel
theorem dX4_nearestOf_18 : decode cX4_nearestOf 18 = .ok (.if_icmp .ge 68, 3) := by decide +kernel
theorem dX4_nearestOf_21 : decode cX4_nearestOf 21 = .ok (.iload_n 2, 1) := by decide +kernel
theorem dX4_nearestOf_22 : decode cX4_nearestOf 22 = .ok (.aload_n 0, 1) := by decide +kernel
theorem dX4_nearestOf_23 : decode cX4_nearestOf 23 = .ok (.getfield 21, 3) := by decide +kernel
theorem dX4_nearestOf_26 : decode cX4_nearestOf 26 = .ok (.getfield 43, 3) := by decide +kernel
theorem dX4_nearestOf_29 : decode cX4_nearestOf 29 = .ok (.iload 6, 2) := by decide +kernel
theorem dX4_nearestOf_31 : decode cX4_nearestOf 31 = .ok (.iaload, 1) := by decide +kernel
theorem dX4_nearestOf_32 : decode cX4_nearestOf 32 = .ok (.isub, 1) := by decide +kernel
theorem dX4_nearestOf_33 : decode cX4_nearestOf 33 = .ok (.istore 7, 2) := by decide +kernel
theorem dX4_nearestOf_35 : decode cX4_nearestOf 35 = .ok (.iload 7, 2) := by decide +kernel
theorem dX4_nearestOf_37 : decode cX4_nearestOf 37 = .ok (.iload 7, 2) := by decide +kernel
theorem dX4_nearestOf_39 : decode cX4_nearestOf 39 = .ok (.imul, 1) := by decide +kernel
theorem dX4_nearestOf_40 : decode cX4_nearestOf 40 = .ok (.iload_n 3, 1) := by decide +kernel
theorem dX4_nearestOf_41 : decode cX4_nearestOf 41 = .ok (.iconst 1, 1) := by decide +kernel
theorem dX4_nearestOf_42 : decode cX4_nearestOf 42 = .ok (.iadd, 1) := by decide +kernel
theorem dX4_nearestOf_43 : decode cX4_nearestOf 43 = .ok (.iload_n 3, 1) := by decide +kernel
theorem dX4_nearestOf_44 : decode cX4_nearestOf 44 = .ok (.iconst 1, 1) := by decide +kernel
theorem dX4_nearestOf_45 : decode cX4_nearestOf 45 = .ok (.iadd, 1) := by decide +kernel
theorem dX4_nearestOf_46 : decode cX4_nearestOf 46 = .ok (.imul, 1) := by decide +kernel
theorem dX4_nearestOf_47 : decode cX4_nearestOf 47 = .ok (.iadd, 1) := by decide +kernel
theorem dX4_nearestOf_48 : decode cX4_nearestOf 48 = .ok (.istore 8, 2) := by decide +kernel
theorem dX4_nearestOf_50 : decode cX4_nearestOf 50 = .ok (.iload_n 1, 1) := by decide +kernel
theorem dX4_nearestOf_51 : decode cX4_nearestOf 51 = .ok (.iload 6, 2) := by decide +kernel
theorem dX4_nearestOf_53 : decode cX4_nearestOf 53 = .ok (.invokestatic 115, 3) := by decide +kernel
theorem dX4_nearestOf_56 : decode cX4_nearestOf 56 = .ok (.ifCond .eq 24, 3) := by decide +kernel
theorem dX4_nearestOf_59 : decode cX4_nearestOf 59 = .ok (.iload 4, 2) := by decide +kernel
theorem dX4_nearestOf_61 : decode cX4_nearestOf 61 = .ok (.iconst (-1), 1) := by decide +kernel
theorem dX4_nearestOf_62 : decode cX4_nearestOf 62 = .ok (.if_icmp .eq 10, 3) := by decide +kernel
theorem dX4_nearestOf_65 : decode cX4_nearestOf 65 = .ok (.iload 8, 2) := by decide +kernel
theorem dX4_nearestOf_67 : decode cX4_nearestOf 67 = .ok (.iload 5, 2) := by decide +kernel
theorem dX4_nearestOf_69 : decode cX4_nearestOf 69 = .ok (.if_icmp .ge 11, 3) := by decide +kernel
theorem dX4_nearestOf_72 : decode cX4_nearestOf 72 = .ok (.iload 8, 2) := by decide +kernel
theorem dX4_nearestOf_74 : decode cX4_nearestOf 74 = .ok (.istore 5, 2) := by decide +kernel
theorem dX4_nearestOf_76 : decode cX4_nearestOf 76 = .ok (.iload 6, 2) := by decide +kernel
theorem dX4_nearestOf_78 : decode cX4_nearestOf 78 = .ok (.istore 4, 2) := by decide +kernel
theorem dX4_nearestOf_80 : decode cX4_nearestOf 80 = .ok (.iinc 6 1, 3) := by decide +kernel
theorem dX4_nearestOf_83 : decode cX4_nearestOf 83 = .ok (.goto (-74), 3) := by decide +kernel
theorem dX4_nearestOf_86 : decode cX4_nearestOf 86 = .ok (.iconst 0, 1) := by decide +kernel
theorem dX4_nearestOf_87 : decode cX4_nearestOf 87 = .ok (.iload 4, 2) := by decide +kernel
theorem dX4_nearestOf_89 : decode cX4_nearestOf 89 = .ok (.invokestatic 69, 3) := by decide +kernel
theorem dX4_nearestOf_92 : decode cX4_nearestOf 92 = .ok (.ireturn, 1) := by decide +kernel
set_option maxRecDepth 20000 in
theorem ggX4_highestOf_X6_holds : GoodIn wsX4_highestOf wsX6_holds := goodIn_r _ [5] (by decide +kernel) (by decide +kernel)
set_option maxRecDepth 20000 in
theorem gX4_highestOf_X6_holds_n115 : GoodIn wsX4_highestOf (wsX6_holds) := ggX4_highestOf_X6_holds
