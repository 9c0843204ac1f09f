set_option maxRecDepth 20000 in
theorem lin_36 : ∀ w ∈ wsL_law_r36, w ∈ lw_tbl := fun w h => (goodIn_p (big := lw_tbl) wsL_law_r36 [1211, 1216, 1219, 754, 758] rfl (by decide +kernel) w h).1
set_option maxRecDepth 20000 in
theorem lin_37 : ∀ w ∈ wsL_law_r37, w ∈ lw_tbl := fun w h => (goodIn_p (big := lw_tbl) wsL_law_r37 [763, 768, 773, 1223, 1227] rfl (by decide +kernel) w h).1
set_option maxRecDepth 20000 in
theorem lin_38 : ∀ w ∈ wsL_law_r38, w ∈ lw_tbl := fun w h => (goodIn_p (big := lw_tbl) wsL_law_r38 [777, 781, 785, 1231, 1235, 789] rfl (by decide +kernel) w h).1
set_option maxRecDepth 20000 in
theorem lin_39 : ∀ w ∈ wsL_law_r39, w ∈ lw_tbl := fun w h => (goodIn_p (big := lw_tbl) wsL_law_r39 [793, 1239, 797, 1243, 801] rfl (by decide +kernel) w h).1
set_option maxRecDepth 20000 in
theorem lin_40 : ∀ w ∈ wsL_law_r40, w ∈ lw_tbl := fun w h => (goodIn_p (big := lw_tbl) wsL_law_r40 [1247, 805, 1251, 809, 813, 1255] rfl (by decide +kernel) w h).1
set_option maxRecDepth 20000 in
theorem lin_41 : ∀ w ∈ wsL_law_r41, w ∈ lw_tbl := fun w h => (goodIn_p (big := lw_tbl) wsL_law_r41 [817, 1259] rfl (by decide +kernel) w h).1
set_option maxRecDepth 20000 in
theorem lin_X6 : ∀ w ∈ wsX60, w ∈ lw_tbl := fun w h => (goodIn_p (big := lw_tbl) wsX60 [] rfl (by decide +kernel) w h).1
