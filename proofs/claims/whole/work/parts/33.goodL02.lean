set_option maxRecDepth 20000 in
theorem ggL_law_X7_ask : GoodIn wsL_law wsX7_ask := goodIn_r _ [641, 19, 346, 34, 349, 282, 208, 2, 209, 364, 365, 366, 18, 367, 56, 175, 176, 368, 198, 199, 642, 643, 644, 33, 645, 646, 80, 81, 153, 154, 932, 933, 934, 935, 936, 937, 938, 939, 940, 941, 942, 981, 982, 983, 984, 985, 986, 987, 988, 989, 990, 991, 1001, 1002, 1003] (by decide +kernel) (by decide +kernel)
set_option maxRecDepth 20000 in
theorem gL_law_X7_ask : GoodIn wsL_law (wsV RL 73 RX7 yX7_ask wsX7_ask) := goodIn_app (goodIn_of _ (by decide +kernel)) ggL_law_X7_ask
set_option maxRecDepth 20000 in
theorem ggL_law_X8_ask : GoodIn wsL_law wsX8_ask := goodIn_r _ [650, 356, 245, 246, 247, 408, 409, 410, 5, 411, 271, 290, 291, 292, 378, 379, 380, 381, 230, 943, 944, 945, 946, 947, 948, 949, 950, 951, 952, 953, 954, 955, 956, 957, 958, 959, 960, 961, 962, 963, 964, 965, 966, 967, 968, 969, 970, 971, 972, 973, 974, 975, 976, 977, 978] (by decide +kernel) (by decide +kernel)
set_option maxRecDepth 20000 in
theorem gL_law_X8_ask : GoodIn wsL_law (wsV RL 76 RX8 yX8_ask wsX8_ask) := goodIn_app (goodIn_of _ (by decide +kernel)) ggL_law_X8_ask
set_option maxRecDepth 20000 in
theorem ggL_law_X7_forget : GoodIn wsL_law wsX7_forget := goodIn_r _ [654, 34, 349, 932, 933, 934, 935, 936, 937, 938, 939, 940, 941, 942, 1001, 1002, 1003] (by decide +kernel) (by decide +kernel)
set_option maxRecDepth 20000 in
theorem gL_law_X7_forget : GoodIn wsL_law (wsV RL 77 RX7 yX7_forget wsX7_forget) := goodIn_app (goodIn_of _ (by decide +kernel)) ggL_law_X7_forget
set_option maxRecDepth 20000 in
theorem ggL_law_X8_forget : GoodIn wsL_law wsX8_forget := goodIn_r _ [658, 356, 943, 944, 945, 946, 947, 948, 949, 950, 951, 952, 953, 954, 955, 956, 957, 958, 959, 960, 961, 962, 963, 964, 965, 966, 967, 968, 969, 970, 971, 972, 973, 974, 975, 976, 977, 978] (by decide +kernel) (by decide +kernel)
set_option maxRecDepth 20000 in
theorem gL_law_X8_forget : GoodIn wsL_law (wsV RL 80 RX8 yX8_forget wsX8_forget) := goodIn_app (goodIn_of _ (by decide +kernel)) ggL_law_X8_forget
set_option maxRecDepth 20000 in
theorem ggL_law_X7_meeting : GoodIn wsL_law wsX7_meeting := goodIn_r _ [662, 25, 24, 38, 19, 34, 663, 664, 665, 502, 503, 23, 504, 218, 219, 220, 221, 222, 67, 68, 224, 2, 225, 666, 667, 668, 37, 669, 670, 671, 672, 89, 673, 674, 675, 33, 676, 646, 80, 677, 678, 81, 175, 176, 679, 390, 391, 392, 393, 394, 395, 396, 397, 18, 398, 399, 400, 401, 402, 166, 61, 454, 455, 680, 681, 682, 683, 91, 684, 685, 686, 687, 86, 87, 88, 153, 154, 688, 689, 690, 691, 692, 693, 694, 514, 515, 516, 517, 512, 518, 519, 511, 513, 695, 696, 697, 698, 92, 369, 932, 933, 934, 935, 936, 937, 938, 939, 940, 941, 942, 1004, 1005, 1006, 1007, 1008, 1009, 1010, 1011, 992, 993, 994, 995, 996, 997, 998, 1001, 1002, 1003, 981, 982, 983, 984, 985, 986, 987, 988, 989, 990, 991] (by decide +kernel) (by decide +kernel)
set_option maxRecDepth 20000 in
theorem gL_law_X7_meeting : GoodIn wsL_law (wsV RL 81 RX7 yX7_meeting wsX7_meeting) := goodIn_app (goodIn_of _ (by decide +kernel)) ggL_law_X7_meeting
set_option maxRecDepth 20000 in
theorem ggL_law_X8_meeting : GoodIn wsL_law wsX8_meeting := goodIn_r _ [702, 248, 249, 242, 703, 272, 250, 251, 704, 705, 5, 706, 707, 708, 709, 710, 711, 712, 713, 714, 356, 245, 246, 247, 416, 417, 418, 419, 273, 235, 468, 469, 470, 471, 232, 231, 420, 421, 422, 423, 233, 472, 473, 474, 715, 716, 717, 718, 234, 539, 540, 541, 542, 543, 544, 536, 537, 538, 943, 944, 945, 946, 947, 948, 949, 950, 951, 952, 953, 954, 955, 956, 957, 958, 959, 960, 961, 962, 963, 964, 965, 966, 967, 968, 969, 970, 971, 972, 973, 974, 975, 976, 977, 978] (by decide +kernel) (by decide +kernel)
set_option maxRecDepth 20000 in
theorem gL_law_X8_meeting : GoodIn wsL_law (wsV RL 84 RX8 yX8_meeting wsX8_meeting) := goodIn_app (goodIn_of _ (by decide +kernel)) ggL_law_X8_meeting
set_option maxRecDepth 20000 in
theorem ggL_law_X7_shifts : GoodIn wsL_law wsX7_shifts := goodIn_r _ [722, 42, 19, 24, 437, 34, 723, 724, 282, 208, 2, 209, 725, 726, 727, 41, 728, 729, 97, 730, 731, 732, 733, 734, 735, 736, 737, 738, 175, 176, 739, 740, 741, 18, 742, 58, 55, 743, 396, 397, 398, 399, 400, 401, 402, 166, 61, 454, 455, 932, 933, 934, 935, 936, 937, 938, 939, 940, 941, 942, 992, 993, 994, 995, 996, 997, 998, 1012, 1013, 1014, 1015, 1001, 1002, 1003, 981, 982, 983, 984, 985, 986, 987, 988, 989, 990, 991] (by decide +kernel) (by decide +kernel)
set_option maxRecDepth 20000 in
theorem gL_law_X7_shifts : GoodIn wsL_law (wsV RL 85 RX7 yX7_shifts wsX7_shifts) := goodIn_app (goodIn_of _ (by decide +kernel)) ggL_law_X7_shifts
set_option maxRecDepth 20000 in
theorem ggL_law_X8_shifts : GoodIn wsL_law wsX8_shifts := goodIn_r _ [747, 290, 291, 5, 292, 711, 712, 713, 714, 356, 245, 246, 247, 242, 416, 417, 418, 419, 273, 235, 468, 469, 470, 471, 232, 231, 420, 421, 422, 423, 233, 472, 473, 474, 943, 944, 945, 946, 947, 948, 949, 950, 951, 952, 953, 954, 955, 956, 957, 958, 959, 960, 961, 962, 963, 964, 965, 966, 967, 968, 969, 970, 971, 972, 973, 974, 975, 976, 977, 978] (by decide +kernel) (by decide +kernel)
set_option maxRecDepth 20000 in
theorem gL_law_X8_shifts : GoodIn wsL_law (wsV RL 88 RX8 yX8_shifts wsX8_shifts) := goodIn_app (goodIn_of _ (by decide +kernel)) ggL_law_X8_shifts
set_option maxRecDepth 20000 in
theorem ggL_law_X7_most : GoodIn wsL_law wsX7_most := goodIn_r _ [751, 42, 19, 24, 437, 752, 282, 208, 2, 209, 753, 754, 755, 41, 756, 98, 757, 737, 153, 154, 175, 176, 739, 740, 741, 18, 742, 58, 55, 743, 396, 397, 398, 399, 400, 401, 402, 166, 61, 454, 455, 758, 759, 760, 761, 369, 932, 933, 934, 935, 936, 937, 938, 939, 940, 941, 942, 992, 993, 994, 995, 996, 997, 998, 1012, 1013, 1014, 1015, 981, 982, 983, 984, 985, 986, 987, 988, 989, 990, 991] (by decide +kernel) (by decide +kernel)
set_option maxRecDepth 20000 in
theorem gL_law_X7_most : GoodIn wsL_law (wsV RL 89 RX7 yX7_most wsX7_most) := goodIn_app (goodIn_of _ (by decide +kernel)) ggL_law_X7_most
set_option maxRecDepth 20000 in
theorem ggL_law_X8_most : GoodIn wsL_law wsX8_most := goodIn_r _ [765, 290, 291, 5, 292, 766, 767, 768, 769, 271, 242, 416, 417, 418, 419, 273, 235, 464, 465, 466, 467, 230, 468, 469, 470, 471, 232, 231, 420, 421, 422, 423, 233, 472, 473, 474, 623, 624, 625, 943, 944, 945, 946, 947, 948, 949, 950, 951, 952, 953, 954, 955, 956, 957, 958, 959, 960, 961, 962, 963, 964, 965, 966, 967, 968, 969, 970, 971, 972, 973, 974, 975, 976, 977, 978] (by decide +kernel) (by decide +kernel)
set_option maxRecDepth 20000 in
theorem gL_law_X8_most : GoodIn wsL_law (wsV RL 92 RX8 yX8_most wsX8_most) := goodIn_app (goodIn_of _ (by decide +kernel)) ggL_law_X8_most
set_option maxRecDepth 20000 in
theorem ggL_law_X7_hut : GoodIn wsL_law wsX7_hut := goodIn_r _ [773, 19, 24, 437, 282, 208, 2, 209, 774, 775, 776, 18, 777, 55, 743, 396, 397, 398, 399, 400, 401, 402, 166, 61, 778, 779, 780, 781, 782, 783, 784, 785, 786, 365, 366, 367, 56, 175, 176, 932, 933, 934, 935, 936, 937, 938, 939, 940, 941, 942, 992, 993, 994, 995, 996, 997, 998, 981, 982, 983, 984, 985, 986, 987, 988, 989, 990, 991] (by decide +kernel) (by decide +kernel)
set_option maxRecDepth 20000 in
theorem gL_law_X7_hut : GoodIn wsL_law (wsV RL 93 RX7 yX7_hut wsX7_hut) := goodIn_app (goodIn_of _ (by decide +kernel)) ggL_law_X7_hut
set_option maxRecDepth 20000 in
theorem ggL_law_X8_hut : GoodIn wsL_law wsX8_hut := goodIn_r _ [790, 290, 291, 5, 292, 791, 792, 793, 794, 230, 242, 231, 416, 417, 418, 419, 273, 235, 943, 944, 945, 946, 947, 948, 949, 950, 951, 952, 953, 954, 955, 956, 957, 958, 959, 960, 961, 962, 963, 964, 965, 966, 967, 968, 969, 970, 971, 972, 973, 974, 975, 976, 977, 978] (by decide +kernel) (by decide +kernel)
set_option maxRecDepth 20000 in
theorem gL_law_X8_hut : GoodIn wsL_law (wsV RL 96 RX8 yX8_hut wsX8_hut) := goodIn_app (goodIn_of _ (by decide +kernel)) ggL_law_X8_hut
set_option maxRecDepth 20000 in
theorem ggL_law_X7_behind : GoodIn wsL_law wsX7_behind := goodIn_r _ [798, 19, 346, 25, 24, 388, 282, 208, 2, 209, 665, 502, 503, 23, 504, 218, 219, 220, 221, 222, 67, 68, 224, 225, 559, 560, 561, 562, 563, 564, 449, 450, 451, 393, 452, 175, 176, 453, 390, 391, 392, 394, 395, 396, 397, 18, 398, 399, 400, 401, 402, 166, 61, 454, 455, 565, 566, 567, 568, 569, 517, 512, 518, 371, 372, 153, 154, 369, 932, 933, 934, 935, 936, 937, 938, 939, 940, 941, 942, 981, 982, 983, 984, 985, 986, 987, 988, 989, 990, 991, 992, 993, 994, 995, 996, 997, 998] (by decide +kernel) (by decide +kernel)
set_option maxRecDepth 20000 in
theorem gL_law_X7_behind : GoodIn wsL_law (wsV RL 97 RX7 yX7_behind wsX7_behind) := goodIn_app (goodIn_of _ (by decide +kernel)) ggL_law_X7_behind
set_option maxRecDepth 20000 in
theorem ggL_law_X8_behind : GoodIn wsL_law wsX8_behind := goodIn_r _ [802, 803, 242, 290, 291, 5, 292, 408, 409, 410, 411, 271, 274, 275, 276, 277, 575, 576, 577, 578, 460, 461, 462, 463, 416, 417, 418, 419, 273, 235, 464, 465, 466, 467, 230, 468, 469, 470, 471, 232, 231, 420, 421, 422, 423, 233, 472, 473, 474, 579, 580, 581, 542, 543, 544, 943, 944, 945, 946, 947, 948, 949, 950, 951, 952, 953, 954, 955, 956, 957, 958, 959, 960, 961, 962, 963, 964, 965, 966, 967, 968, 969, 970, 971, 972, 973, 974, 975, 976, 977, 978] (by decide +kernel) (by decide +kernel)
set_option maxRecDepth 20000 in
theorem gL_law_X8_behind : GoodIn wsL_law (wsV RL 100 RX8 yX8_behind wsX8_behind) := goodIn_app (goodIn_of _ (by decide +kernel)) ggL_law_X8_behind
set_option maxRecDepth 20000 in
theorem ggL_law_X7_worth : GoodIn wsL_law wsX7_worth := goodIn_r _ [807, 25, 24, 19, 347, 282, 208, 2, 209, 665, 502, 503, 23, 504, 218, 219, 220, 221, 222, 67, 68, 224, 225, 559, 560, 561, 562, 563, 564, 449, 450, 451, 393, 452, 175, 176, 453, 390, 391, 392, 394, 395, 396, 397, 18, 398, 399, 400, 401, 402, 166, 61, 454, 455, 565, 566, 567, 568, 569, 517, 512, 518, 371, 372, 153, 154, 808, 809, 810, 811, 505, 506, 507, 508, 509, 510, 511, 513, 514, 515, 516, 519, 932, 933, 934, 935, 936, 937, 938, 939, 940, 941, 942, 981, 982, 983, 984, 985, 986, 987, 988, 989, 990, 991, 992, 993, 994, 995, 996, 997, 998] (by decide +kernel) (by decide +kernel)
set_option maxRecDepth 20000 in
theorem gL_law_X7_worth : GoodIn wsL_law (wsV RL 101 RX7 yX7_worth wsX7_worth) := goodIn_app (goodIn_of _ (by decide +kernel)) ggL_law_X7_worth
