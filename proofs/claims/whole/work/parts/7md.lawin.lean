set_option maxRecDepth 20000 in
theorem lin_22 : ∀ w ∈ wsL_law_r22, w ∈ lw_tbl := fun w h => (goodIn_p (big := lw_tbl) wsL_law_r22 [1074, 1078, 1082, 1086, 1089, 1093] rfl (by decide +kernel) w h).1
set_option maxRecDepth 20000 in
theorem lin_23 : ∀ w ∈ wsL_law_r23, w ∈ lw_tbl := fun w h => (goodIn_p (big := lw_tbl) wsL_law_r23 [1097, 573, 577, 583, 587] rfl (by decide +kernel) w h).1
set_option maxRecDepth 20000 in
theorem lin_24 : ∀ w ∈ wsL_law_r24, w ∈ lw_tbl := fun w h => (goodIn_p (big := lw_tbl) wsL_law_r24 [590, 594, 1101, 1105, 1110, 1113] rfl (by decide +kernel) w h).1
set_option maxRecDepth 20000 in
theorem lin_25 : ∀ w ∈ wsL_law_r25, w ∈ lw_tbl := fun w h => (goodIn_p (big := lw_tbl) wsL_law_r25 [1117, 598, 602, 607, 612] rfl (by decide +kernel) w h).1
set_option maxRecDepth 20000 in
theorem lin_26 : ∀ w ∈ wsL_law_r26, w ∈ lw_tbl := fun w h => (goodIn_p (big := lw_tbl) wsL_law_r26 [1121, 1125, 1129, 616, 1133, 621] rfl (by decide +kernel) w h).1
set_option maxRecDepth 20000 in
theorem lin_27 : ∀ w ∈ wsL_law_r27, w ∈ lw_tbl := fun w h => (goodIn_p (big := lw_tbl) wsL_law_r27 [1137, 626, 630, 634, 639] rfl (by decide +kernel) w h).1
set_option maxRecDepth 20000 in
theorem lin_28 : ∀ w ∈ wsL_law_r28, w ∈ lw_tbl := fun w h => (goodIn_p (big := lw_tbl) wsL_law_r28 [642, 1141, 1145, 1149, 1152] rfl (by decide +kernel) w h).1
