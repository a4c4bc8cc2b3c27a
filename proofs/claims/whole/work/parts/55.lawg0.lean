/-! THE LAW: its calls -/
abbrev mL_law : mT := (yL_law, RL, cL_law, 4, some .boolean, wsL_law)
set_option maxRecDepth 20000 in
theorem ggL_law_X8_init : GoodIn wsL_law wsX8_init := goodIn_r _ [9, 10, 11, 12, 13, 14, 15, 16, 17, 18, 19, 20, 21, 22, 23, 24, 25, 26, 27, 28, 29, 30, 31, 32, 33, 34, 35, 36, 37, 38, 39, 40, 41, 42, 43, 44, 45, 46, 47, 48, 49, 50, 51, 52, 53, 54, 55, 56, 57, 58, 59, 60, 61, 62, 63, 64, 65, 66, 67, 68, 69, 70, 71, 72, 73, 74, 75, 76, 77, 78, 79, 80, 81, 82, 83, 84, 85, 86, 87, 88, 89, 90, 91, 962, 963, 964, 965, 966, 967, 924, 925, 926, 927, 928, 929, 930, 931, 932, 933, 934, 935, 936, 968, 969, 970, 971, 972, 973, 974, 975, 976, 977, 978, 979, 980, 981, 982, 983, 984, 985, 986, 987, 988, 989] (by decide +kernel) (by decide +kernel)
set_option maxRecDepth 20000 in
theorem gL_law_X8_init : GoodIn wsL_law (wsX8_init) := ggL_law_X8_init
theorem ciL_X8_init : CWI mL_law mX8_init := ⟨gL_law_X8_init, ⟨_, rfl⟩, by decide +kernel, by decide +kernel, rfl, by decide +kernel, by decide +kernel, by decide +kernel⟩
set_option maxRecDepth 20000 in
theorem ggL_law_X9_init : GoodIn wsL_law wsX9_init := goodIn_r _ [94, 95, 11, 12, 96, 97, 53, 98, 99, 100, 101, 102, 103, 104, 105, 106, 107, 108, 109, 110, 111, 112, 113, 937, 938, 939, 940, 941, 942, 943, 944, 945, 946, 947, 948, 949, 950, 951, 952, 953, 954, 955, 956, 957, 958, 959, 960, 961] (by decide +kernel) (by decide +kernel)
set_option maxRecDepth 20000 in
theorem gL_law_X9_init : GoodIn wsL_law (wsX9_init) := ggL_law_X9_init
theorem ciL_X9_init : CWI mL_law mX9_init := ⟨gL_law_X9_init, ⟨_, rfl⟩, by decide +kernel, by decide +kernel, rfl, by decide +kernel, by decide +kernel, by decide +kernel⟩
set_option maxRecDepth 20000 in
theorem ggL_law_X8_type : GoodIn wsL_law wsX8_type := goodIn_r _ [117, 16, 118, 119, 120, 121, 122, 15, 123, 124, 125, 126, 127, 128, 54, 129, 924, 925, 926, 927, 928, 929, 930, 931, 932, 933, 934, 935, 936, 962, 963, 964, 965, 966, 967] (by decide +kernel) (by decide +kernel)
set_option maxRecDepth 20000 in
theorem gL_law_X8_type : GoodIn wsL_law (wsV RL 15 RX8 yX8_type wsX8_type) := goodIn_app (goodIn_of _ (by decide +kernel)) ggL_law_X8_type
theorem wL_law_15 : CWV mL_law 15 mX8_type 2 := ⟨gL_law_X8_type, ⟨_, rfl⟩, rfl, by decide +kernel, by decide +kernel, by decide +kernel⟩
set_option maxRecDepth 20000 in
theorem ggL_law_X9_type : GoodIn wsL_law wsX9_type := goodIn_r _ [133, 134, 135, 97, 136, 137, 138, 5, 139, 937, 938, 939, 940, 941, 942, 943, 944, 945, 946, 947, 948, 949, 950, 951, 952, 953, 954, 955, 956, 957, 958, 959, 960, 961] (by decide +kernel) (by decide +kernel)
set_option maxRecDepth 20000 in
theorem gL_law_X9_type : GoodIn wsL_law (wsV RL 19 RX9 yX9_type wsX9_type) := goodIn_app (goodIn_of _ (by decide +kernel)) ggL_law_X9_type
theorem wL_law_19 : CWV mL_law 19 mX9_type 2 := ⟨gL_law_X9_type, ⟨_, rfl⟩, rfl, by decide +kernel, by decide +kernel, by decide +kernel⟩
set_option maxRecDepth 20000 in
theorem ggL_law_X8_clear : GoodIn wsL_law wsX8_clear := goodIn_r _ [143, 16, 119, 924, 925, 926, 927, 928, 929, 930, 931, 932, 933, 934, 935, 936, 962, 963, 964, 965, 966, 967] (by decide +kernel) (by decide +kernel)
set_option maxRecDepth 20000 in
theorem gL_law_X8_clear : GoodIn wsL_law (wsV RL 20 RX8 yX8_clear wsX8_clear) := goodIn_app (goodIn_of _ (by decide +kernel)) ggL_law_X8_clear
theorem wL_law_20 : CWV mL_law 20 mX8_clear 0 := ⟨gL_law_X8_clear, ⟨_, rfl⟩, rfl, by decide +kernel, by decide +kernel, by decide +kernel⟩
set_option maxRecDepth 20000 in
theorem ggL_law_X9_clear : GoodIn wsL_law wsX9_clear := goodIn_r _ [147, 135, 937, 938, 939, 940, 941, 942, 943, 944, 945, 946, 947, 948, 949, 950, 951, 952, 953, 954, 955, 956, 957, 958, 959, 960, 961] (by decide +kernel) (by decide +kernel)
set_option maxRecDepth 20000 in
theorem gL_law_X9_clear : GoodIn wsL_law (wsV RL 24 RX9 yX9_clear wsX9_clear) := goodIn_app (goodIn_of _ (by decide +kernel)) ggL_law_X9_clear
theorem wL_law_24 : CWV mL_law 24 mX9_clear 0 := ⟨gL_law_X9_clear, ⟨_, rfl⟩, rfl, by decide +kernel, by decide +kernel, by decide +kernel⟩
set_option maxRecDepth 20000 in
theorem ggL_law_X8_town : GoodIn wsL_law wsX8_town := goodIn_r _ [151, 16, 46, 45, 119, 20, 29, 41, 152, 153, 154, 155, 156, 15, 157, 158, 159, 160, 161, 162, 163, 164, 165, 124, 54, 166, 167, 168, 169, 170, 171, 172, 173, 174, 175, 176, 177, 178, 179, 180, 181, 182, 183, 184, 185, 186, 187, 188, 189, 190, 191, 192, 193, 194, 195, 196, 197, 198, 199, 200, 201, 202, 203, 204, 205, 206, 207, 208, 209, 210, 211, 212, 213, 214, 215, 216, 217, 218, 219, 220, 221, 222, 223, 224, 225, 226, 227, 228, 229, 230, 231, 232, 233, 234, 235, 236, 237, 238, 239, 240, 241, 242, 243, 244, 245, 246, 247, 248, 19, 249, 58, 250, 251, 252, 28, 253, 66, 67, 68, 69, 254, 924, 925, 926, 927, 928, 929, 930, 931, 932, 933, 934, 935, 936, 962, 963, 964, 965, 966, 967, 981, 982, 983, 984, 985, 986, 987, 988, 989, 968, 970, 971, 972, 973, 974] (by decide +kernel) (by decide +kernel)
set_option maxRecDepth 20000 in
theorem gL_law_X8_town : GoodIn wsL_law (wsV RL 25 RX8 yX8_town wsX8_town) := goodIn_app (goodIn_of _ (by decide +kernel)) ggL_law_X8_town
theorem wL_law_25 : CWV mL_law 25 mX8_town 0 := ⟨gL_law_X8_town, ⟨_, rfl⟩, rfl, by decide +kernel, by decide +kernel, by decide +kernel⟩
set_option maxRecDepth 20000 in
theorem ggL_law_X9_town : GoodIn wsL_law wsX9_town := goodIn_r _ [258, 259, 260, 261, 98, 99, 262, 100, 101, 263, 102, 106, 108, 264, 135, 265, 266, 267, 5, 268, 269, 270, 271, 272, 273, 274, 275, 276, 277, 97, 137, 138, 139, 278, 279, 280, 281, 282, 283, 284, 285, 286, 287, 288, 289, 937, 938, 939, 940, 941, 942, 943, 944, 945, 946, 947, 948, 949, 950, 951, 952, 953, 954, 955, 956, 957, 958, 959, 960, 961] (by decide +kernel) (by decide +kernel)
set_option maxRecDepth 20000 in
theorem gL_law_X9_town : GoodIn wsL_law (wsV RL 28 RX9 yX9_town wsX9_town) := goodIn_app (goodIn_of _ (by decide +kernel)) ggL_law_X9_town
theorem wL_law_28 : CWV mL_law 28 mX9_town 0 := ⟨gL_law_X9_town, ⟨_, rfl⟩, rfl, by decide +kernel, by decide +kernel, by decide +kernel⟩
set_option maxRecDepth 20000 in
theorem ggL_law_X8_person : GoodIn wsL_law wsX8_person := goodIn_r _ [293, 45, 294, 295, 296, 297, 20, 298, 299, 300, 2, 301, 153, 302, 303, 304, 19, 305, 306, 307, 308, 309, 310, 311, 312, 313, 58, 924, 925, 926, 927, 928, 929, 930, 931, 932, 933, 934, 935, 936, 985, 986, 987, 988, 989, 968] (by decide +kernel) (by decide +kernel)
set_option maxRecDepth 20000 in
theorem gL_law_X8_person : GoodIn wsL_law (wsV RL 29 RX8 yX8_person wsX8_person) := goodIn_app (goodIn_of _ (by decide +kernel)) ggL_law_X8_person
theorem wL_law_29 : CWV mL_law 29 mX8_person 2 := ⟨gL_law_X8_person, ⟨_, rfl⟩, rfl, by decide +kernel, by decide +kernel, by decide +kernel⟩
set_option maxRecDepth 20000 in
theorem ggL_law_X9_person : GoodIn wsL_law wsX9_person := goodIn_r _ [317, 98, 99, 100, 101, 318, 319, 320, 5, 321, 263, 137, 138, 139, 322, 323, 324, 325, 102, 937, 938, 939, 940, 941, 942, 943, 944, 945, 946, 947, 948, 949, 950, 951, 952, 953, 954, 955, 956, 957, 958, 959, 960, 961] (by decide +kernel) (by decide +kernel)
set_option maxRecDepth 20000 in
theorem gL_law_X9_person : GoodIn wsL_law (wsV RL 33 RX9 yX9_person wsX9_person) := goodIn_app (goodIn_of _ (by decide +kernel)) ggL_law_X9_person
theorem wL_law_33 : CWV mL_law 33 mX9_person 2 := ⟨gL_law_X9_person, ⟨_, rfl⟩, rfl, by decide +kernel, by decide +kernel, by decide +kernel⟩
set_option maxRecDepth 20000 in
theorem ggL_law_X8_purse : GoodIn wsL_law wsX8_purse := goodIn_r _ [329, 20, 298, 299, 300, 2, 301, 45, 153, 330, 331, 332, 333, 311, 312, 19, 313, 58, 334, 335, 336, 337, 924, 925, 926, 927, 928, 929, 930, 931, 932, 933, 934, 935, 936, 985, 986, 987, 988, 989, 968] (by decide +kernel) (by decide +kernel)
set_option maxRecDepth 20000 in
theorem gL_law_X8_purse : GoodIn wsL_law (wsV RL 34 RX8 yX8_purse wsX8_purse) := goodIn_app (goodIn_of _ (by decide +kernel)) ggL_law_X8_purse
theorem wL_law_34 : CWV mL_law 34 mX8_purse 3 := ⟨gL_law_X8_purse, ⟨_, rfl⟩, rfl, by decide +kernel, by decide +kernel, by decide +kernel⟩
set_option maxRecDepth 20000 in
theorem ggL_law_X9_purse : GoodIn wsL_law wsX9_purse := goodIn_r _ [341, 342, 343, 102, 318, 319, 320, 5, 321, 263, 137, 138, 139, 937, 938, 939, 940, 941, 942, 943, 944, 945, 946, 947, 948, 949, 950, 951, 952, 953, 954, 955, 956, 957, 958, 959, 960, 961] (by decide +kernel) (by decide +kernel)
set_option maxRecDepth 20000 in
theorem gL_law_X9_purse : GoodIn wsL_law (wsV RL 38 RX9 yX9_purse wsX9_purse) := goodIn_app (goodIn_of _ (by decide +kernel)) ggL_law_X9_purse
theorem wL_law_38 : CWV mL_law 38 mX9_purse 3 := ⟨gL_law_X9_purse, ⟨_, rfl⟩, rfl, by decide +kernel, by decide +kernel, by decide +kernel⟩
set_option maxRecDepth 20000 in
theorem ggL_law_X8_coins : GoodIn wsL_law wsX8_coins := goodIn_r _ [347, 20, 330, 331, 2, 332, 298, 299, 300, 301, 45, 153, 348, 349, 350, 19, 351, 310, 311, 312, 313, 58, 333, 924, 925, 926, 927, 928, 929, 930, 931, 932, 933, 934, 935, 936, 985, 986, 987, 988, 989, 968] (by decide +kernel) (by decide +kernel)
set_option maxRecDepth 20000 in
theorem gL_law_X8_coins : GoodIn wsL_law (wsV RL 39 RX8 yX8_coins wsX8_coins) := goodIn_app (goodIn_of _ (by decide +kernel)) ggL_law_X8_coins
theorem wL_law_39 : CWV mL_law 39 mX8_coins 2 := ⟨gL_law_X8_coins, ⟨_, rfl⟩, rfl, by decide +kernel, by decide +kernel, by decide +kernel⟩
set_option maxRecDepth 20000 in
theorem ggL_law_X9_coins : GoodIn wsL_law wsX9_coins := goodIn_r _ [355, 356, 263, 342, 102, 137, 138, 5, 139, 357, 358, 359, 360, 937, 938, 939, 940, 941, 942, 943, 944, 945, 946, 947, 948, 949, 950, 951, 952, 953, 954, 955, 956, 957, 958, 959, 960, 961] (by decide +kernel) (by decide +kernel)
set_option maxRecDepth 20000 in
theorem gL_law_X9_coins : GoodIn wsL_law (wsV RL 42 RX9 yX9_coins wsX9_coins) := goodIn_app (goodIn_of _ (by decide +kernel)) ggL_law_X9_coins
theorem wL_law_42 : CWV mL_law 42 mX9_coins 2 := ⟨gL_law_X9_coins, ⟨_, rfl⟩, rfl, by decide +kernel, by decide +kernel, by decide +kernel⟩
set_option maxRecDepth 20000 in
theorem ggL_law_X8_tune : GoodIn wsL_law wsX8_tune := goodIn_r _ [364, 25, 365, 366, 367, 24, 368, 62, 369, 370, 924, 925, 926, 927, 928, 929, 930, 931, 932, 933, 934, 935, 936, 969] (by decide +kernel) (by decide +kernel)
set_option maxRecDepth 20000 in
theorem gL_law_X8_tune : GoodIn wsL_law (wsV RL 43 RX8 yX8_tune wsX8_tune) := goodIn_app (goodIn_of _ (by decide +kernel)) ggL_law_X8_tune
theorem wL_law_43 : CWV mL_law 43 mX8_tune 2 := ⟨gL_law_X8_tune, ⟨_, rfl⟩, rfl, by decide +kernel, by decide +kernel, by decide +kernel⟩
set_option maxRecDepth 20000 in
theorem ggL_law_X9_tune : GoodIn wsL_law wsX9_tune := goodIn_r _ [374, 375, 107, 137, 138, 5, 139, 376, 377, 378, 937, 938, 939, 940, 941, 942, 943, 944, 945, 946, 947, 948, 949, 950, 951, 952, 953, 954, 955, 956, 957, 958, 959, 960, 961] (by decide +kernel) (by decide +kernel)
set_option maxRecDepth 20000 in
theorem gL_law_X9_tune : GoodIn wsL_law (wsV RL 46 RX9 yX9_tune wsX9_tune) := goodIn_app (goodIn_of _ (by decide +kernel)) ggL_law_X9_tune
theorem wL_law_46 : CWV mL_law 46 mX9_tune 2 := ⟨gL_law_X9_tune, ⟨_, rfl⟩, rfl, by decide +kernel, by decide +kernel, by decide +kernel⟩
set_option maxRecDepth 20000 in
theorem ggL_law_X8_lot : GoodIn wsL_law wsX8_lot := goodIn_r _ [382, 47, 924, 925, 926, 927, 928, 929, 930, 931, 932, 933, 934, 935, 936] (by decide +kernel) (by decide +kernel)
set_option maxRecDepth 20000 in
theorem gL_law_X8_lot : GoodIn wsL_law (wsV RL 47 RX8 yX8_lot wsX8_lot) := goodIn_app (goodIn_of _ (by decide +kernel)) ggL_law_X8_lot
theorem wL_law_47 : CWV mL_law 47 mX8_lot 1 := ⟨gL_law_X8_lot, ⟨_, rfl⟩, rfl, by decide +kernel, by decide +kernel, by decide +kernel⟩
set_option maxRecDepth 20000 in
theorem ggL_law_X9_lot : GoodIn wsL_law wsX9_lot := goodIn_r _ [386, 103, 937, 938, 939, 940, 941, 942, 943, 944, 945, 946, 947, 948, 949, 950, 951, 952, 953, 954, 955, 956, 957, 958, 959, 960, 961] (by decide +kernel) (by decide +kernel)
set_option maxRecDepth 20000 in
theorem gL_law_X9_lot : GoodIn wsL_law (wsV RL 51 RX9 yX9_lot wsX9_lot) := goodIn_app (goodIn_of _ (by decide +kernel)) ggL_law_X9_lot
theorem wL_law_51 : CWV mL_law 51 mX9_lot 1 := ⟨gL_law_X9_lot, ⟨_, rfl⟩, rfl, by decide +kernel, by decide +kernel, by decide +kernel⟩
set_option maxRecDepth 20000 in
theorem ggL_law_X8_meet : GoodIn wsL_law wsX8_meet := goodIn_r _ [390, 45, 153, 29, 391, 392, 393, 394, 2, 395, 20, 396, 397, 398, 399, 47, 400, 401, 402, 403, 404, 294, 295, 405, 406, 407, 408, 25, 296, 409, 410, 411, 24, 412, 62, 333, 311, 312, 19, 313, 58, 413, 414, 415, 416, 310, 417, 335, 336, 337, 418, 419, 420, 28, 421, 66, 67, 68, 69, 254, 924, 925, 926, 927, 928, 929, 930, 931, 932, 933, 934, 935, 936, 985, 986, 987, 988, 989, 970, 971, 972, 973, 974, 969, 968] (by decide +kernel) (by decide +kernel)
set_option maxRecDepth 20000 in
theorem gL_law_X8_meet : GoodIn wsL_law (wsV RL 52 RX8 yX8_meet wsX8_meet) := goodIn_app (goodIn_of _ (by decide +kernel)) ggL_law_X8_meet
theorem wL_law_52 : CWV mL_law 52 mX8_meet 0 := ⟨gL_law_X8_meet, ⟨_, rfl⟩, rfl, by decide +kernel, by decide +kernel, by decide +kernel⟩
set_option maxRecDepth 20000 in
theorem ggL_law_X9_meet : GoodIn wsL_law wsX9_meet := goodIn_r _ [425, 263, 426, 427, 428, 5, 429, 98, 99, 102, 107, 100, 108, 264, 430, 431, 432, 433, 103, 434, 937, 938, 939, 940, 941, 942, 943, 944, 945, 946, 947, 948, 949, 950, 951, 952, 953, 954, 955, 956, 957, 958, 959, 960, 961] (by decide +kernel) (by decide +kernel)
set_option maxRecDepth 20000 in
theorem gL_law_X9_meet : GoodIn wsL_law (wsV RL 55 RX9 yX9_meet wsX9_meet) := goodIn_app (goodIn_of _ (by decide +kernel)) ggL_law_X9_meet
theorem wL_law_55 : CWV mL_law 55 mX9_meet 0 := ⟨gL_law_X9_meet, ⟨_, rfl⟩, rfl, by decide +kernel, by decide +kernel, by decide +kernel⟩
set_option maxRecDepth 20000 in
theorem ggL_law_X8_run : GoodIn wsL_law wsX8_run := goodIn_r _ [438, 45, 153, 29, 391, 392, 393, 394, 2, 395, 20, 396, 397, 398, 399, 47, 400, 401, 402, 403, 404, 294, 295, 405, 406, 407, 408, 25, 296, 409, 410, 411, 24, 412, 62, 333, 311, 312, 19, 313, 58, 413, 414, 415, 416, 310, 417, 335, 336, 337, 418, 419, 420, 28, 421, 66, 67, 68, 69, 254, 924, 925, 926, 927, 928, 929, 930, 931, 932, 933, 934, 935, 936, 985, 986, 987, 988, 989, 970, 971, 972, 973, 974, 969, 968] (by decide +kernel) (by decide +kernel)
set_option maxRecDepth 20000 in
theorem gL_law_X8_run : GoodIn wsL_law (wsV RL 56 RX8 yX8_run wsX8_run) := goodIn_app (goodIn_of _ (by decide +kernel)) ggL_law_X8_run
theorem wL_law_56 : CWV mL_law 56 mX8_run 1 := ⟨gL_law_X8_run, ⟨_, rfl⟩, rfl, by decide +kernel, by decide +kernel, by decide +kernel⟩
set_option maxRecDepth 20000 in
theorem ggL_law_X9_run : GoodIn wsL_law wsX9_run := goodIn_r _ [442, 443, 263, 137, 138, 5, 139, 426, 427, 428, 429, 98, 99, 102, 107, 100, 108, 264, 430, 431, 432, 433, 103, 434, 937, 938, 939, 940, 941, 942, 943, 944, 945, 946, 947, 948, 949, 950, 951, 952, 953, 954, 955, 956, 957, 958, 959, 960, 961] (by decide +kernel) (by decide +kernel)
set_option maxRecDepth 20000 in
theorem gL_law_X9_run : GoodIn wsL_law (wsV RL 59 RX9 yX9_run wsX9_run) := goodIn_app (goodIn_of _ (by decide +kernel)) ggL_law_X9_run
theorem wL_law_59 : CWV mL_law 59 mX9_run 1 := ⟨gL_law_X9_run, ⟨_, rfl⟩, rfl, by decide +kernel, by decide +kernel, by decide +kernel⟩

