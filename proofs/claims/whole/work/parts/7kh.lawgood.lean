set_option maxRecDepth 20000 in
theorem gL_law_X6_seed : GoodIn wsL_law (wsV RL 121 RX6 yX6_seed wsX6_seed) := goodIn_app (goodIn_of _ (by decide +kernel)) ggL_law_X6_seed
set_option maxRecDepth 20000 in
theorem ggL_law_X7_seed : GoodIn wsL_law wsX7_seed := goodIn_r _ [946, 148, 774, 976, 977, 978, 979, 980, 981, 982, 983, 984, 985, 986, 987, 988, 989, 990, 991, 992, 993, 994, 995, 996, 997, 998, 999, 1000, 1001, 1002, 1003, 1004, 1005, 1006, 1007, 1008, 1009, 1010, 1011, 1012, 1013, 1014, 1015, 1016, 1017, 1018, 1019, 1020, 1021, 1022, 1023] (by decide +kernel) (by decide +kernel)
set_option maxRecDepth 20000 in
theorem gL_law_X7_seed : GoodIn wsL_law (wsV RL 124 RX7 yX7_seed wsX7_seed) := goodIn_app (goodIn_of _ (by decide +kernel)) ggL_law_X7_seed
set_option maxRecDepth 20000 in
theorem ggL_law_X6_keep : GoodIn wsL_law wsX6_keep := goodIn_r _ [950, 534, 25, 24, 162, 951, 952, 953, 23, 954, 312, 955, 756, 78, 314, 305, 306, 307, 79, 80, 968, 969, 970, 971, 972, 973, 974, 975, 1047, 1048, 1049, 1050, 1051, 1052, 1053] (by decide +kernel) (by decide +kernel)
set_option maxRecDepth 20000 in
theorem gL_law_X6_keep : GoodIn wsL_law (wsV RL 125 RX6 yX6_keep wsX6_keep) := goodIn_app (goodIn_of _ (by decide +kernel)) ggL_law_X6_keep
set_option maxRecDepth 20000 in
theorem ggL_law_X7_keep : GoodIn wsL_law wsX7_keep := goodIn_r _ [959, 561, 128, 112, 113, 114, 411, 498, 774, 129, 152, 153, 5, 154, 976, 977, 978, 979, 980, 981, 982, 983, 984, 985, 986, 987, 988, 989, 990, 991, 992, 993, 994, 995, 996, 997, 998, 999, 1000, 1001, 1002, 1003, 1004, 1005, 1006, 1007, 1008, 1009, 1010, 1011, 1012, 1013, 1014, 1015, 1016, 1017, 1018, 1019, 1020, 1021, 1022, 1023] (by decide +kernel) (by decide +kernel)
set_option maxRecDepth 20000 in
theorem gL_law_X7_keep : GoodIn wsL_law (wsV RL 128 RX7 yX7_keep wsX7_keep) := goodIn_app (goodIn_of _ (by decide +kernel)) ggL_law_X7_keep
set_option maxRecDepth 20000 in
theorem ggL_law_X6_goBack : GoodIn wsL_law wsX6_goBack := goodIn_r _ [963, 534, 25, 162, 691, 24, 951, 952, 953, 23, 954, 312, 955, 756, 78, 314, 305, 306, 307, 79, 80, 968, 969, 970, 971, 972, 973, 974, 975, 1047, 1048, 1049, 1050, 1051, 1052, 1053] (by decide +kernel) (by decide +kernel)
set_option maxRecDepth 20000 in
theorem gL_law_X6_goBack : GoodIn wsL_law (wsV RL 129 RX6 yX6_goBack wsX6_goBack) := goodIn_app (goodIn_of _ (by decide +kernel)) ggL_law_X6_goBack
set_option maxRecDepth 20000 in
theorem ggL_law_X7_goBack : GoodIn wsL_law wsX7_goBack := goodIn_r _ [967, 561, 129, 700, 112, 128, 113, 114, 411, 498, 774, 152, 153, 5, 154, 976, 977, 978, 979, 980, 981, 982, 983, 984, 985, 986, 987, 988, 989, 990, 991, 992, 993, 994, 995, 996, 997, 998, 999, 1000, 1001, 1002, 1003, 1004, 1005, 1006, 1007, 1008, 1009, 1010, 1011, 1012, 1013, 1014, 1015, 1016, 1017, 1018, 1019, 1020, 1021, 1022, 1023] (by decide +kernel) (by decide +kernel)
set_option maxRecDepth 20000 in
theorem gL_law_X7_goBack : GoodIn wsL_law (wsV RL 132 RX7 yX7_goBack wsX7_goBack) := goodIn_app (goodIn_of _ (by decide +kernel)) ggL_law_X7_goBack
