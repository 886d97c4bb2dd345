set_option maxRecDepth 20000 in
theorem ggL_law_X8_inches : GoodIn wsL_law wsX8_inches := goodIn_r _ [432, 272, 234, 290, 291, 5, 292, 943, 944, 945, 946, 947, 948, 949, 950, 951, 952, 953, 954, 955, 956, 957, 958, 959, 960, 961, 962, 963, 964, 965, 966, 967, 968, 969, 970, 971, 972, 973, 974, 975, 976, 977, 978] (by decide +kernel) (by decide +kernel)
set_option maxRecDepth 20000 in
theorem gL_law_X8_inches : GoodIn wsL_law (wsV RL 44 RX8 yX8_inches wsX8_inches) := goodIn_app (goodIn_of _ (by decide +kernel)) ggL_law_X8_inches
set_option maxRecDepth 20000 in
theorem ggL_law_X7_damp : GoodIn wsL_law wsX7_damp := goodIn_r _ [436, 19, 24, 437, 282, 208, 2, 209, 438, 400, 401, 18, 402, 166, 61, 932, 933, 934, 935, 936, 937, 938, 939, 940, 941, 942, 992, 993, 994, 995, 996, 997, 998, 981, 982, 983, 984, 985, 986, 987, 988, 989, 990, 991] (by decide +kernel) (by decide +kernel)
set_option maxRecDepth 20000 in
theorem gL_law_X7_damp : GoodIn wsL_law (wsV RL 45 RX7 yX7_damp wsX7_damp) := goodIn_app (goodIn_of _ (by decide +kernel)) ggL_law_X7_damp
set_option maxRecDepth 20000 in
theorem ggL_law_X8_damp : GoodIn wsL_law wsX8_damp := goodIn_r _ [442, 443, 242, 290, 291, 5, 292, 416, 417, 418, 419, 273, 235, 943, 944, 945, 946, 947, 948, 949, 950, 951, 952, 953, 954, 955, 956, 957, 958, 959, 960, 961, 962, 963, 964, 965, 966, 967, 968, 969, 970, 971, 972, 973, 974, 975, 976, 977, 978] (by decide +kernel) (by decide +kernel)
set_option maxRecDepth 20000 in
theorem gL_law_X8_damp : GoodIn wsL_law (wsV RL 48 RX8 yX8_damp wsX8_damp) := goodIn_app (goodIn_of _ (by decide +kernel)) ggL_law_X8_damp
set_option maxRecDepth 20000 in
theorem ggL_law_X7_against : GoodIn wsL_law wsX7_against := goodIn_r _ [447, 19, 346, 24, 282, 208, 2, 209, 448, 449, 450, 23, 451, 393, 452, 175, 176, 453, 390, 391, 392, 219, 218, 394, 221, 395, 396, 397, 18, 398, 399, 400, 401, 402, 166, 61, 454, 455, 932, 933, 934, 935, 936, 937, 938, 939, 940, 941, 942, 981, 982, 983, 984, 985, 986, 987, 988, 989, 990, 991, 992, 993, 994, 995, 996, 997, 998] (by decide +kernel) (by decide +kernel)
set_option maxRecDepth 20000 in
theorem gL_law_X7_against : GoodIn wsL_law (wsV RL 49 RX7 yX7_against wsX7_against) := goodIn_app (goodIn_of _ (by decide +kernel)) ggL_law_X7_against
set_option maxRecDepth 20000 in
theorem ggL_law_X8_against : GoodIn wsL_law wsX8_against := goodIn_r _ [459, 408, 409, 410, 5, 411, 271, 290, 291, 292, 460, 461, 462, 463, 242, 416, 417, 418, 419, 273, 235, 464, 465, 466, 467, 230, 468, 469, 470, 471, 232, 231, 420, 421, 422, 423, 233, 472, 473, 474, 943, 944, 945, 946, 947, 948, 949, 950, 951, 952, 953, 954, 955, 956, 957, 958, 959, 960, 961, 962, 963, 964, 965, 966, 967, 968, 969, 970, 971, 972, 973, 974, 975, 976, 977, 978] (by decide +kernel) (by decide +kernel)
set_option maxRecDepth 20000 in
theorem gL_law_X8_against : GoodIn wsL_law (wsV RL 52 RX8 yX8_against wsX8_against) := goodIn_app (goodIn_of _ (by decide +kernel)) ggL_law_X8_against
set_option maxRecDepth 20000 in
theorem ggL_law_X7_push : GoodIn wsL_law wsX7_push := goodIn_r _ [478, 29, 24, 19, 479, 480, 481, 482, 2, 483, 347, 282, 208, 209, 484, 485, 486, 28, 487, 488, 489, 490, 491, 492, 74, 493, 494, 495, 496, 497, 498, 499, 500, 501, 502, 503, 23, 504, 218, 219, 220, 221, 222, 67, 68, 224, 225, 505, 506, 507, 508, 509, 510, 511, 512, 513, 175, 176, 514, 515, 516, 517, 518, 519, 932, 933, 934, 935, 936, 937, 938, 939, 940, 941, 942, 992, 993, 994, 995, 996, 997, 998, 981, 982, 983, 984, 985, 986, 987, 988, 989, 990, 991, 999, 1000] (by decide +kernel) (by decide +kernel)
set_option maxRecDepth 20000 in
theorem gL_law_X7_push : GoodIn wsL_law (wsV RL 53 RX7 yX7_push wsX7_push) := goodIn_app (goodIn_of _ (by decide +kernel)) ggL_law_X7_push
set_option maxRecDepth 20000 in
theorem ggL_law_X8_push : GoodIn wsL_law wsX8_push := goodIn_r _ [523, 242, 524, 525, 526, 5, 527, 272, 290, 291, 292, 528, 529, 530, 531, 354, 274, 275, 276, 277, 532, 533, 534, 535, 234, 536, 537, 538, 539, 540, 541, 542, 543, 544, 943, 944, 945, 946, 947, 948, 949, 950, 951, 952, 953, 954, 955, 956, 957, 958, 959, 960, 961, 962, 963, 964, 965, 966, 967, 968, 969, 970, 971, 972, 973, 974, 975, 976, 977, 978] (by decide +kernel) (by decide +kernel)
set_option maxRecDepth 20000 in
theorem gL_law_X8_push : GoodIn wsL_law (wsV RL 56 RX8 yX8_push wsX8_push) := goodIn_app (goodIn_of _ (by decide +kernel)) ggL_law_X8_push
set_option maxRecDepth 20000 in
theorem ggL_law_X7_chalk : GoodIn wsL_law wsX7_chalk := goodIn_r _ [548, 29, 24, 549, 282, 208, 2, 209, 484, 485, 486, 28, 487, 488, 489, 490, 491, 492, 74, 493, 494, 495, 496, 497, 498, 499, 500, 501, 502, 503, 23, 504, 218, 219, 220, 221, 222, 67, 68, 224, 225, 932, 933, 934, 935, 936, 937, 938, 939, 940, 941, 942, 992, 993, 994, 995, 996, 997, 998, 999, 1000] (by decide +kernel) (by decide +kernel)
set_option maxRecDepth 20000 in
theorem gL_law_X7_chalk : GoodIn wsL_law (wsV RL 57 RX7 yX7_chalk wsX7_chalk) := goodIn_app (goodIn_of _ (by decide +kernel)) ggL_law_X7_chalk
set_option maxRecDepth 20000 in
theorem ggL_law_X8_chalk : GoodIn wsL_law wsX8_chalk := goodIn_r _ [553, 554, 242, 290, 291, 5, 292, 528, 529, 530, 531, 354, 274, 275, 276, 277, 943, 944, 945, 946, 947, 948, 949, 950, 951, 952, 953, 954, 955, 956, 957, 958, 959, 960, 961, 962, 963, 964, 965, 966, 967, 968, 969, 970, 971, 972, 973, 974, 975, 976, 977, 978] (by decide +kernel) (by decide +kernel)
set_option maxRecDepth 20000 in
theorem gL_law_X8_chalk : GoodIn wsL_law (wsV RL 60 RX8 yX8_chalk wsX8_chalk) := goodIn_app (goodIn_of _ (by decide +kernel)) ggL_law_X8_chalk
set_option maxRecDepth 20000 in
theorem ggL_law_X7_pass : GoodIn wsL_law wsX7_pass := goodIn_r _ [558, 24, 437, 29, 19, 282, 208, 2, 209, 484, 485, 486, 28, 487, 488, 489, 490, 491, 492, 74, 493, 494, 495, 496, 497, 498, 499, 500, 501, 502, 503, 23, 504, 218, 219, 220, 221, 222, 67, 68, 224, 225, 559, 560, 561, 562, 563, 564, 449, 450, 451, 393, 452, 175, 176, 453, 390, 391, 392, 394, 395, 396, 397, 18, 398, 399, 400, 401, 402, 166, 61, 454, 455, 565, 566, 567, 568, 569, 517, 512, 518, 371, 372, 153, 154, 932, 933, 934, 935, 936, 937, 938, 939, 940, 941, 942, 992, 993, 994, 995, 996, 997, 998, 999, 1000, 981, 982, 983, 984, 985, 986, 987, 988, 989, 990, 991] (by decide +kernel) (by decide +kernel)
set_option maxRecDepth 20000 in
theorem gL_law_X7_pass : GoodIn wsL_law (wsV RL 61 RX7 yX7_pass wsX7_pass) := goodIn_app (goodIn_of _ (by decide +kernel)) ggL_law_X7_pass
set_option maxRecDepth 20000 in
theorem ggL_law_X8_pass : GoodIn wsL_law wsX8_pass := goodIn_r _ [573, 574, 242, 290, 291, 5, 292, 528, 529, 530, 531, 354, 274, 275, 276, 277, 575, 576, 577, 578, 271, 460, 461, 462, 463, 416, 417, 418, 419, 273, 235, 464, 465, 466, 467, 230, 468, 469, 470, 471, 232, 231, 420, 421, 422, 423, 233, 472, 473, 474, 579, 580, 581, 542, 543, 544, 943, 944, 945, 946, 947, 948, 949, 950, 951, 952, 953, 954, 955, 956, 957, 958, 959, 960, 961, 962, 963, 964, 965, 966, 967, 968, 969, 970, 971, 972, 973, 974, 975, 976, 977, 978] (by decide +kernel) (by decide +kernel)
set_option maxRecDepth 20000 in
theorem gL_law_X8_pass : GoodIn wsL_law (wsV RL 64 RX8 yX8_pass wsX8_pass) := goodIn_app (goodIn_of _ (by decide +kernel)) ggL_law_X8_pass
set_option maxRecDepth 20000 in
theorem ggL_law_X7_line : GoodIn wsL_law wsX7_line := goodIn_r _ [585, 24, 19, 29, 363, 282, 208, 2, 209, 586, 587, 588, 23, 589, 590, 591, 592, 593, 594, 452, 222, 175, 176, 198, 199, 371, 372, 595, 596, 597, 598, 563, 453, 390, 391, 392, 393, 219, 218, 394, 221, 395, 396, 397, 18, 398, 399, 400, 401, 402, 166, 61, 484, 485, 486, 28, 487, 488, 489, 490, 491, 492, 74, 493, 494, 495, 496, 497, 498, 499, 500, 501, 502, 503, 504, 220, 67, 68, 224, 225, 599, 600, 601, 602, 603, 604, 605, 932, 933, 934, 935, 936, 937, 938, 939, 940, 941, 942, 992, 993, 994, 995, 996, 997, 998, 981, 982, 983, 984, 985, 986, 987, 988, 989, 990, 991, 999, 1000] (by decide +kernel) (by decide +kernel)
set_option maxRecDepth 20000 in
theorem gL_law_X7_line : GoodIn wsL_law (wsV RL 65 RX7 yX7_line wsX7_line) := goodIn_app (goodIn_of _ (by decide +kernel)) ggL_law_X7_line
set_option maxRecDepth 20000 in
theorem ggL_law_X8_line : GoodIn wsL_law wsX8_line := goodIn_r _ [609, 610, 443, 290, 291, 5, 292, 274, 275, 276, 277, 242, 611, 612, 613, 614, 615, 616, 617, 618, 271, 230, 231, 412, 413, 414, 415, 416, 417, 418, 419, 273, 235, 420, 421, 422, 423, 233, 232, 579, 580, 581, 528, 529, 530, 531, 354, 619, 620, 621, 622, 623, 624, 625, 943, 944, 945, 946, 947, 948, 949, 950, 951, 952, 953, 954, 955, 956, 957, 958, 959, 960, 961, 962, 963, 964, 965, 966, 967, 968, 969, 970, 971, 972, 973, 974, 975, 976, 977, 978] (by decide +kernel) (by decide +kernel)
set_option maxRecDepth 20000 in
theorem gL_law_X8_line : GoodIn wsL_law (wsV RL 68 RX8 yX8_line wsX8_line) := goodIn_app (goodIn_of _ (by decide +kernel)) ggL_law_X8_line
set_option maxRecDepth 20000 in
theorem ggL_law_X7_undo : GoodIn wsL_law wsX7_undo := goodIn_r _ [629, 29, 24, 348, 630, 631, 632, 28, 633, 488, 497, 498, 499, 500, 74, 501, 502, 503, 23, 504, 218, 219, 220, 221, 222, 67, 68, 224, 2, 225, 932, 933, 934, 935, 936, 937, 938, 939, 940, 941, 942, 999, 1000, 992, 993, 994, 995, 996, 997, 998] (by decide +kernel) (by decide +kernel)
set_option maxRecDepth 20000 in
theorem gL_law_X7_undo : GoodIn wsL_law (wsV RL 69 RX7 yX7_undo wsX7_undo) := goodIn_app (goodIn_of _ (by decide +kernel)) ggL_law_X7_undo
set_option maxRecDepth 20000 in
theorem ggL_law_X8_undo : GoodIn wsL_law wsX8_undo := goodIn_r _ [637, 354, 274, 275, 276, 5, 277, 242, 943, 944, 945, 946, 947, 948, 949, 950, 951, 952, 953, 954, 955, 956, 957, 958, 959, 960, 961, 962, 963, 964, 965, 966, 967, 968, 969, 970, 971, 972, 973, 974, 975, 976, 977, 978] (by decide +kernel) (by decide +kernel)
set_option maxRecDepth 20000 in
theorem gL_law_X8_undo : GoodIn wsL_law (wsV RL 72 RX8 yX8_undo wsX8_undo) := goodIn_app (goodIn_of _ (by decide +kernel)) ggL_law_X8_undo
