set_option maxRecDepth 20000 in
theorem gL_law_X6_law : GoodIn wsL_law (wsV RL 60 RX6 yX6_law wsX6_law) := goodIn_app (goodIn_of _ (by decide +kernel)) ggL_law_X6_law
set_option maxRecDepth 20000 in
theorem ggL_law_X7_law : GoodIn wsL_law wsX7_law := goodIn_r _ [685, 686, 148, 498, 152, 153, 5, 154, 976, 977, 978, 979, 980, 981, 982, 983, 984, 985, 986, 987, 988, 989, 990, 991, 992, 993, 994, 995, 996, 997, 998, 999, 1000, 1001, 1002, 1003, 1004, 1005, 1006, 1007, 1008, 1009, 1010, 1011, 1012, 1013, 1014, 1015, 1016, 1017, 1018, 1019, 1020, 1021, 1022, 1023] (by decide +kernel) (by decide +kernel)
set_option maxRecDepth 20000 in
theorem gL_law_X7_law : GoodIn wsL_law (wsV RL 63 RX7 yX7_law wsX7_law) := goodIn_app (goodIn_of _ (by decide +kernel)) ggL_law_X7_law
set_option maxRecDepth 20000 in
theorem ggL_law_X6_build : GoodIn wsL_law wsX6_build := goodIn_r _ [690, 16, 534, 24, 583, 691, 435, 585, 586, 587, 15, 588, 58, 692, 693, 694, 23, 695, 78, 79, 968, 969, 970, 971, 972, 973, 974, 975, 1047, 1048, 1049, 1050, 1051, 1052, 1053, 1024, 1025, 1026, 1027, 1028, 1029, 1030, 1031, 1032, 1033, 1034, 1035, 1036, 1037] (by decide +kernel) (by decide +kernel)
set_option maxRecDepth 20000 in
theorem gL_law_X6_build : GoodIn wsL_law (wsV RL 64 RX6 yX6_build wsX6_build) := goodIn_app (goodIn_of _ (by decide +kernel)) ggL_law_X6_build
set_option maxRecDepth 20000 in
theorem ggL_law_X7_build : GoodIn wsL_law wsX7_build := goodIn_r _ [699, 561, 112, 700, 603, 604, 605, 5, 606, 329, 152, 153, 154, 701, 702, 703, 704, 113, 111, 976, 977, 978, 979, 980, 981, 982, 983, 984, 985, 986, 987, 988, 989, 990, 991, 992, 993, 994, 995, 996, 997, 998, 999, 1000, 1001, 1002, 1003, 1004, 1005, 1006, 1007, 1008, 1009, 1010, 1011, 1012, 1013, 1014, 1015, 1016, 1017, 1018, 1019, 1020, 1021, 1022, 1023] (by decide +kernel) (by decide +kernel)
set_option maxRecDepth 20000 in
theorem gL_law_X7_build : GoodIn wsL_law (wsV RL 67 RX7 yX7_build wsX7_build) := goodIn_app (goodIn_of _ (by decide +kernel)) ggL_law_X7_build
set_option maxRecDepth 20000 in
theorem ggL_law_X6_plant : GoodIn wsL_law wsX6_plant := goodIn_r _ [708, 16, 534, 135, 24, 535, 537, 538, 539, 15, 540, 56, 57, 541, 278, 279, 280, 968, 969, 970, 971, 972, 973, 974, 975, 1047, 1048, 1049, 1050, 1051, 1052, 1053, 1024, 1025, 1026, 1027, 1028, 1029, 1030, 1031, 1032, 1033, 1034, 1035, 1036, 1037] (by decide +kernel) (by decide +kernel)
set_option maxRecDepth 20000 in
theorem gL_law_X6_plant : GoodIn wsL_law (wsV RL 68 RX6 yX6_plant wsX6_plant) := goodIn_app (goodIn_of _ (by decide +kernel)) ggL_law_X6_plant
set_option maxRecDepth 20000 in
theorem ggL_law_X7_plant : GoodIn wsL_law wsX7_plant := goodIn_r _ [712, 561, 713, 148, 114, 130, 562, 563, 564, 5, 565, 327, 152, 153, 154, 976, 977, 978, 979, 980, 981, 982, 983, 984, 985, 986, 987, 988, 989, 990, 991, 992, 993, 994, 995, 996, 997, 998, 999, 1000, 1001, 1002, 1003, 1004, 1005, 1006, 1007, 1008, 1009, 1010, 1011, 1012, 1013, 1014, 1015, 1016, 1017, 1018, 1019, 1020, 1021, 1022, 1023] (by decide +kernel) (by decide +kernel)
set_option maxRecDepth 20000 in
theorem gL_law_X7_plant : GoodIn wsL_law (wsV RL 71 RX7 yX7_plant wsX7_plant) := goodIn_app (goodIn_of _ (by decide +kernel)) ggL_law_X7_plant
set_option maxRecDepth 20000 in
theorem ggL_law_X6_day : GoodIn wsL_law wsX6_day := goodIn_r _ [717, 135, 16, 691, 29, 24, 718, 433, 316, 317, 318, 15, 319, 56, 57, 445, 446, 447, 28, 448, 85, 88, 449, 450, 451, 452, 453, 89, 454, 455, 456, 457, 437, 438, 439, 59, 49, 50, 51, 458, 459, 460, 461, 462, 463, 464, 465, 466, 467, 468, 265, 469, 470, 264, 266, 471, 472, 473, 474, 475, 476, 477, 478, 479, 480, 481, 482, 483, 484, 485, 486, 487, 278, 279, 280, 488, 2, 489, 490, 491, 492, 493, 719, 720, 721, 722, 86, 641, 543, 544, 545, 546, 547, 548, 549, 550, 551, 552, 553, 554, 555, 556, 723, 724, 725, 726, 642, 643, 644, 645, 646, 647, 648, 649, 650, 651, 652, 653, 727, 728, 729, 23, 730, 79, 731, 732, 733, 734, 436, 968, 969, 970, 971, 972, 973, 974, 975, 1054, 1055, 1056, 1057, 1058, 1059, 1060, 1061, 1047, 1048, 1049, 1050, 1051, 1052, 1053, 1024, 1025, 1026, 1027, 1028, 1029, 1030, 1031, 1032, 1033, 1034, 1035, 1036, 1037] (by decide +kernel) (by decide +kernel)
set_option maxRecDepth 20000 in
theorem gL_law_X6_day : GoodIn wsL_law (wsV RL 72 RX6 yX6_day wsX6_day) := goodIn_app (goodIn_of _ (by decide +kernel)) ggL_law_X6_day
set_option maxRecDepth 20000 in
theorem ggL_law_X7_day : GoodIn wsL_law wsX7_day := goodIn_r _ [738, 713, 148, 130, 700, 411, 152, 153, 5, 154, 739, 740, 741, 742, 329, 113, 658, 659, 660, 661, 412, 413, 414, 415, 327, 662, 663, 664, 665, 108, 507, 508, 509, 510, 499, 500, 501, 502, 331, 109, 511, 512, 513, 514, 515, 516, 517, 518, 104, 519, 520, 521, 522, 523, 524, 525, 105, 112, 110, 526, 527, 528, 529, 114, 566, 567, 568, 569, 498, 570, 571, 572, 573, 574, 575, 576, 666, 667, 668, 976, 977, 978, 979, 980, 981, 982, 983, 984, 985, 986, 987, 988, 989, 990, 991, 992, 993, 994, 995, 996, 997, 998, 999, 1000, 1001, 1002, 1003, 1004, 1005, 1006, 1007, 1008, 1009, 1010, 1011, 1012, 1013, 1014, 1015, 1016, 1017, 1018, 1019, 1020, 1021, 1022, 1023] (by decide +kernel) (by decide +kernel)
set_option maxRecDepth 20000 in
theorem gL_law_X7_day : GoodIn wsL_law (wsV RL 75 RX7 yX7_day wsX7_day) := goodIn_app (goodIn_of _ (by decide +kernel)) ggL_law_X7_day
