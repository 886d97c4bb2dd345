set_option maxRecDepth 20000 in
theorem ggL_law_X8_worth : GoodIn wsL_law wsX8_worth := goodIn_r _ [815, 574, 272, 290, 291, 5, 292, 816, 817, 818, 819, 274, 275, 276, 277, 242, 532, 533, 534, 535, 234, 536, 537, 538, 539, 540, 541, 542, 543, 544, 575, 576, 577, 578, 271, 460, 461, 462, 463, 416, 417, 418, 419, 273, 235, 464, 465, 466, 467, 230, 468, 469, 470, 471, 232, 231, 420, 421, 422, 423, 233, 472, 473, 474, 579, 580, 581, 820, 821, 822, 823, 943, 944, 945, 946, 947, 948, 949, 950, 951, 952, 953, 954, 955, 956, 957, 958, 959, 960, 961, 962, 963, 964, 965, 966, 967, 968, 969, 970, 971, 972, 973, 974, 975, 976, 977, 978] (by decide +kernel) (by decide +kernel)
set_option maxRecDepth 20000 in
theorem gL_law_X8_worth : GoodIn wsL_law (wsV RL 104 RX8 yX8_worth wsX8_worth) := goodIn_app (goodIn_of _ (by decide +kernel)) ggL_law_X8_worth
set_option maxRecDepth 20000 in
theorem ggL_law_X7_tells : GoodIn wsL_law wsX7_tells := goodIn_r _ [827, 42, 19, 24, 437, 34, 346, 723, 282, 208, 2, 209, 725, 726, 727, 41, 728, 729, 97, 730, 731, 732, 733, 734, 735, 736, 737, 738, 175, 176, 739, 740, 741, 18, 742, 58, 55, 743, 396, 397, 398, 399, 400, 401, 402, 166, 61, 454, 455, 828, 779, 780, 781, 782, 783, 784, 785, 786, 365, 366, 367, 56, 829, 830, 831, 33, 832, 646, 80, 81, 833, 834, 835, 836, 837, 511, 512, 513, 838, 839, 932, 933, 934, 935, 936, 937, 938, 939, 940, 941, 942, 992, 993, 994, 995, 996, 997, 998, 981, 982, 983, 984, 985, 986, 987, 988, 989, 990, 991, 1012, 1013, 1014, 1015, 1001, 1002, 1003] (by decide +kernel) (by decide +kernel)
set_option maxRecDepth 20000 in
theorem gL_law_X7_tells : GoodIn wsL_law (wsV RL 105 RX7 yX7_tells wsX7_tells) := goodIn_app (goodIn_of _ (by decide +kernel)) ggL_law_X7_tells
set_option maxRecDepth 20000 in
theorem ggL_law_X8_tells : GoodIn wsL_law wsX8_tells := goodIn_r _ [843, 271, 230, 242, 290, 291, 5, 292, 844, 745, 746, 747, 711, 712, 713, 714, 356, 245, 246, 247, 416, 417, 418, 419, 273, 235, 468, 469, 470, 471, 232, 231, 420, 421, 422, 423, 233, 472, 473, 474, 845, 846, 847, 848, 536, 537, 538, 542, 543, 544, 943, 944, 945, 946, 947, 948, 949, 950, 951, 952, 953, 954, 955, 956, 957, 958, 959, 960, 961, 962, 963, 964, 965, 966, 967, 968, 969, 970, 971, 972, 973, 974, 975, 976, 977, 978] (by decide +kernel) (by decide +kernel)
set_option maxRecDepth 20000 in
theorem gL_law_X8_tells : GoodIn wsL_law (wsV RL 108 RX8 yX8_tells wsX8_tells) := goodIn_app (goodIn_of _ (by decide +kernel)) ggL_law_X8_tells
set_option maxRecDepth 20000 in
theorem ggL_law_X7_slips : GoodIn wsL_law wsX7_slips := goodIn_r _ [852, 25, 24, 44, 34, 19, 480, 481, 482, 2, 483, 347, 282, 208, 209, 853, 854, 855, 856, 857, 153, 154, 369, 175, 176, 665, 502, 503, 23, 504, 218, 219, 220, 221, 222, 67, 68, 224, 225, 858, 674, 675, 33, 676, 646, 80, 677, 678, 81, 679, 390, 391, 392, 393, 394, 395, 396, 397, 18, 398, 399, 400, 401, 402, 166, 61, 454, 455, 505, 506, 507, 508, 509, 510, 511, 512, 513, 514, 515, 516, 517, 518, 519, 859, 860, 861, 932, 933, 934, 935, 936, 937, 938, 939, 940, 941, 942, 981, 982, 983, 984, 985, 986, 987, 988, 989, 990, 991, 992, 993, 994, 995, 996, 997, 998, 1001, 1002, 1003] (by decide +kernel) (by decide +kernel)
set_option maxRecDepth 20000 in
theorem gL_law_X7_slips : GoodIn wsL_law (wsV RL 109 RX7 yX7_slips wsX7_slips) := goodIn_app (goodIn_of _ (by decide +kernel)) ggL_law_X7_slips
set_option maxRecDepth 20000 in
theorem ggL_law_X8_slips : GoodIn wsL_law wsX8_slips := goodIn_r _ [865, 866, 867, 242, 524, 525, 526, 5, 527, 272, 290, 291, 292, 274, 275, 276, 277, 579, 580, 581, 532, 533, 534, 535, 234, 536, 537, 538, 539, 540, 541, 542, 543, 544, 711, 712, 713, 714, 356, 245, 246, 247, 416, 417, 418, 419, 273, 235, 468, 469, 470, 471, 232, 231, 420, 421, 422, 423, 233, 472, 473, 474, 943, 944, 945, 946, 947, 948, 949, 950, 951, 952, 953, 954, 955, 956, 957, 958, 959, 960, 961, 962, 963, 964, 965, 966, 967, 968, 969, 970, 971, 972, 973, 974, 975, 976, 977, 978] (by decide +kernel) (by decide +kernel)
set_option maxRecDepth 20000 in
theorem gL_law_X8_slips : GoodIn wsL_law (wsV RL 113 RX8 yX8_slips wsX8_slips) := goodIn_app (goodIn_of _ (by decide +kernel)) ggL_law_X8_slips
set_option maxRecDepth 20000 in
theorem ggL_law_X7_century : GoodIn wsL_law wsX7_century := goodIn_r _ [871, 25, 24, 19, 363, 282, 208, 2, 209, 665, 502, 503, 23, 504, 218, 219, 220, 221, 222, 67, 68, 224, 225, 872, 873, 874, 875, 876, 877, 878, 879, 880, 881, 347, 549, 437, 505, 506, 507, 508, 509, 510, 511, 512, 513, 175, 176, 514, 515, 516, 517, 518, 519, 586, 587, 588, 589, 590, 591, 592, 593, 594, 452, 198, 199, 371, 372, 595, 596, 597, 598, 563, 453, 390, 391, 392, 393, 394, 395, 396, 397, 18, 398, 399, 400, 401, 402, 166, 61, 559, 560, 561, 562, 564, 449, 450, 451, 454, 455, 565, 566, 567, 568, 569, 153, 154, 808, 809, 810, 811, 599, 600, 601, 602, 603, 604, 605, 932, 933, 934, 935, 936, 937, 938, 939, 940, 941, 942, 992, 993, 994, 995, 996, 997, 998, 981, 982, 983, 984, 985, 986, 987, 988, 989, 990, 991] (by decide +kernel) (by decide +kernel)
set_option maxRecDepth 20000 in
theorem gL_law_X7_century : GoodIn wsL_law (wsV RL 114 RX7 yX7_century wsX7_century) := goodIn_app (goodIn_of _ (by decide +kernel)) ggL_law_X7_century
set_option maxRecDepth 20000 in
theorem ggL_law_X8_century : GoodIn wsL_law wsX8_century := goodIn_r _ [885, 886, 887, 888, 889, 890, 290, 291, 5, 292, 274, 275, 276, 277, 242, 891, 892, 893, 894, 272, 895, 532, 533, 534, 535, 234, 536, 537, 538, 539, 540, 541, 542, 543, 544, 611, 612, 613, 614, 615, 616, 617, 618, 271, 230, 231, 412, 413, 414, 415, 416, 417, 418, 419, 273, 235, 420, 421, 422, 423, 233, 232, 579, 580, 581, 575, 576, 577, 578, 460, 461, 462, 463, 464, 465, 466, 467, 468, 469, 470, 471, 472, 473, 474, 820, 821, 822, 823, 619, 620, 621, 622, 623, 624, 625, 943, 944, 945, 946, 947, 948, 949, 950, 951, 952, 953, 954, 955, 956, 957, 958, 959, 960, 961, 962, 963, 964, 965, 966, 967, 968, 969, 970, 971, 972, 973, 974, 975, 976, 977, 978] (by decide +kernel) (by decide +kernel)
set_option maxRecDepth 20000 in
theorem gL_law_X8_century : GoodIn wsL_law (wsV RL 117 RX8 yX8_century wsX8_century) := goodIn_app (goodIn_of _ (by decide +kernel)) ggL_law_X8_century
set_option maxRecDepth 20000 in
theorem ggL_law_X7_keep : GoodIn wsL_law wsX7_keep := goodIn_r _ [899, 30, 24, 348, 900, 490, 491, 28, 492, 488, 74, 484, 485, 486, 487, 489, 493, 494, 495, 496, 497, 498, 499, 500, 501, 502, 503, 23, 504, 218, 219, 220, 221, 222, 67, 68, 224, 2, 225, 932, 933, 934, 935, 936, 937, 938, 939, 940, 941, 942, 999, 1000, 992, 993, 994, 995, 996, 997, 998] (by decide +kernel) (by decide +kernel)
set_option maxRecDepth 20000 in
theorem gL_law_X7_keep : GoodIn wsL_law (wsV RL 118 RX7 yX7_keep wsX7_keep) := goodIn_app (goodIn_of _ (by decide +kernel)) ggL_law_X7_keep
set_option maxRecDepth 20000 in
theorem ggL_law_X8_keep : GoodIn wsL_law wsX8_keep := goodIn_r _ [904, 355, 274, 275, 276, 5, 277, 242, 943, 944, 945, 946, 947, 948, 949, 950, 951, 952, 953, 954, 955, 956, 957, 958, 959, 960, 961, 962, 963, 964, 965, 966, 967, 968, 969, 970, 971, 972, 973, 974, 975, 976, 977, 978] (by decide +kernel) (by decide +kernel)
set_option maxRecDepth 20000 in
theorem gL_law_X8_keep : GoodIn wsL_law (wsV RL 121 RX8 yX8_keep wsX8_keep) := goodIn_app (goodIn_of _ (by decide +kernel)) ggL_law_X8_keep
set_option maxRecDepth 20000 in
theorem ggL_law_X7_back : GoodIn wsL_law wsX7_back := goodIn_r _ [908, 30, 24, 29, 348, 630, 631, 632, 28, 633, 488, 497, 498, 499, 500, 74, 501, 502, 503, 23, 504, 218, 219, 220, 221, 222, 67, 68, 224, 2, 225, 932, 933, 934, 935, 936, 937, 938, 939, 940, 941, 942, 999, 1000, 992, 993, 994, 995, 996, 997, 998] (by decide +kernel) (by decide +kernel)
set_option maxRecDepth 20000 in
theorem gL_law_X7_back : GoodIn wsL_law (wsV RL 122 RX7 yX7_back wsX7_back) := goodIn_app (goodIn_of _ (by decide +kernel)) ggL_law_X7_back
set_option maxRecDepth 20000 in
theorem ggL_law_X8_back : GoodIn wsL_law wsX8_back := goodIn_r _ [912, 355, 354, 274, 275, 276, 5, 277, 242, 943, 944, 945, 946, 947, 948, 949, 950, 951, 952, 953, 954, 955, 956, 957, 958, 959, 960, 961, 962, 963, 964, 965, 966, 967, 968, 969, 970, 971, 972, 973, 974, 975, 976, 977, 978] (by decide +kernel) (by decide +kernel)
set_option maxRecDepth 20000 in
theorem gL_law_X8_back : GoodIn wsL_law (wsV RL 125 RX8 yX8_back wsX8_back) := goodIn_app (goodIn_of _ (by decide +kernel)) ggL_law_X8_back
set_option maxRecDepth 20000 in
theorem ggL_law_X7_count : GoodIn wsL_law wsX7_count := goodIn_r _ [916, 19, 917, 346, 347, 34, 349, 29, 348, 30, 15, 45, 369, 175, 2, 176, 918, 919, 920, 921, 24, 437, 479, 922, 549, 363, 599, 600, 601, 602, 603, 604, 605, 923, 924, 925, 23, 926, 563, 564, 449, 450, 451, 393, 452, 453, 390, 391, 392, 219, 218, 394, 221, 395, 396, 397, 18, 398, 399, 400, 401, 402, 166, 61, 454, 455, 927, 932, 933, 934, 935, 936, 937, 938, 939, 940, 941, 942, 981, 982, 983, 984, 985, 986, 987, 988, 989, 990, 991, 1001, 1002, 1003, 999, 1000, 979, 980, 992, 993, 994, 995, 996, 997, 998] (by decide +kernel) (by decide +kernel)
set_option maxRecDepth 20000 in
theorem gL_law_X7_count : GoodIn wsL_law (wsV RL 126 RX7 yX7_count wsX7_count) := goodIn_app (goodIn_of _ (by decide +kernel)) ggL_law_X7_count
set_option maxRecDepth 20000 in
theorem ggL_law_X8_count : GoodIn wsL_law wsX8_count := goodIn_r _ [931, 230, 271, 272, 242, 356, 354, 355, 289, 619, 620, 621, 5, 622, 623, 624, 625, 766, 767, 768, 769, 416, 417, 418, 419, 273, 235, 464, 465, 466, 467, 468, 469, 470, 471, 232, 231, 420, 421, 422, 423, 233, 472, 473, 474, 943, 944, 945, 946, 947, 948, 949, 950, 951, 952, 953, 954, 955, 956, 957, 958, 959, 960, 961, 962, 963, 964, 965, 966, 967, 968, 969, 970, 971, 972, 973, 974, 975, 976, 977, 978] (by decide +kernel) (by decide +kernel)
set_option maxRecDepth 20000 in
theorem gL_law_X8_count : GoodIn wsL_law (wsV RL 129 RX8 yX8_count wsX8_count) := goodIn_app (goodIn_of _ (by decide +kernel)) ggL_law_X8_count
