/-! THE LAW: its calls -/
set_option maxRecDepth 20000 in
theorem ggL_law_X8_changer : GoodIn wsL_law wsX8_changer := goodIn_r _ [729, 298, 299, 300, 2, 301, 45, 153, 730, 731, 732, 733, 20, 333, 311, 312, 19, 313, 58, 640, 641, 642, 643, 25, 409, 410, 411, 24, 412, 62, 924, 925, 926, 927, 928, 929, 930, 931, 932, 933, 934, 935, 936, 985, 986, 987, 988, 989, 968, 969] (by decide +kernel) (by decide +kernel)
set_option maxRecDepth 20000 in
theorem gL_law_X8_changer : GoodIn wsL_law (wsV RL 103 RX8 yX8_changer wsX8_changer) := goodIn_app (goodIn_of _ (by decide +kernel)) ggL_law_X8_changer
theorem wL_law_103 : CWV mL_law 103 mX8_changer 3 := ⟨gL_law_X8_changer, ⟨_, rfl⟩, rfl, by decide +kernel, by decide +kernel, by decide +kernel⟩
set_option maxRecDepth 20000 in
theorem ggL_law_X9_changer : GoodIn wsL_law wsX9_changer := goodIn_r _ [737, 343, 318, 319, 320, 5, 321, 263, 137, 138, 139, 738, 739, 740, 741, 102, 661, 662, 663, 664, 107, 937, 938, 939, 940, 941, 942, 943, 944, 945, 946, 947, 948, 949, 950, 951, 952, 953, 954, 955, 956, 957, 958, 959, 960, 961] (by decide +kernel) (by decide +kernel)
set_option maxRecDepth 20000 in
theorem gL_law_X9_changer : GoodIn wsL_law (wsV RL 106 RX9 yX9_changer wsX9_changer) := goodIn_app (goodIn_of _ (by decide +kernel)) ggL_law_X9_changer
theorem wL_law_106 : CWV mL_law 106 mX9_changer 3 := ⟨gL_law_X9_changer, ⟨_, rfl⟩, rfl, by decide +kernel, by decide +kernel, by decide +kernel⟩
set_option maxRecDepth 20000 in
theorem ggL_law_X8_law : GoodIn wsL_law wsX8_law := goodIn_r _ [745, 37, 746, 747, 748, 36, 749, 79, 924, 925, 926, 927, 928, 929, 930, 931, 932, 933, 934, 935, 936, 980] (by decide +kernel) (by decide +kernel)
set_option maxRecDepth 20000 in
theorem gL_law_X8_law : GoodIn wsL_law (wsV RL 107 RX8 yX8_law wsX8_law) := goodIn_app (goodIn_of _ (by decide +kernel)) ggL_law_X8_law
theorem wL_law_107 : CWV mL_law 107 mX8_law 3 := ⟨gL_law_X8_law, ⟨_, rfl⟩, rfl, by decide +kernel, by decide +kernel, by decide +kernel⟩
set_option maxRecDepth 20000 in
theorem ggL_law_X9_law : GoodIn wsL_law wsX9_law := goodIn_r _ [753, 134, 656, 343, 113, 137, 138, 5, 139, 937, 938, 939, 940, 941, 942, 943, 944, 945, 946, 947, 948, 949, 950, 951, 952, 953, 954, 955, 956, 957, 958, 959, 960, 961] (by decide +kernel) (by decide +kernel)
set_option maxRecDepth 20000 in
theorem gL_law_X9_law : GoodIn wsL_law (wsV RL 110 RX9 yX9_law wsX9_law) := goodIn_app (goodIn_of _ (by decide +kernel)) ggL_law_X9_law
theorem wL_law_110 : CWV mL_law 110 mX9_law 3 := ⟨gL_law_X9_law, ⟨_, rfl⟩, rfl, by decide +kernel, by decide +kernel, by decide +kernel⟩
set_option maxRecDepth 20000 in
theorem ggL_law_X8_cheapest : GoodIn wsL_law wsX8_cheapest := goodIn_r _ [757, 37, 25, 409, 410, 411, 24, 412, 62, 758, 759, 760, 36, 761, 762, 763, 764, 765, 766, 79, 767, 924, 925, 926, 927, 928, 929, 930, 931, 932, 933, 934, 935, 936, 969, 980] (by decide +kernel) (by decide +kernel)
set_option maxRecDepth 20000 in
theorem gL_law_X8_cheapest : GoodIn wsL_law (wsV RL 111 RX8 yX8_cheapest wsX8_cheapest) := goodIn_app (goodIn_of _ (by decide +kernel)) ggL_law_X8_cheapest
theorem wL_law_111 : CWV mL_law 111 mX8_cheapest 3 := ⟨gL_law_X8_cheapest, ⟨_, rfl⟩, rfl, by decide +kernel, by decide +kernel, by decide +kernel⟩
set_option maxRecDepth 20000 in
theorem ggL_law_X9_cheapest : GoodIn wsL_law wsX9_cheapest := goodIn_r _ [771, 772, 107, 137, 138, 5, 139, 773, 774, 775, 776, 113, 937, 938, 939, 940, 941, 942, 943, 944, 945, 946, 947, 948, 949, 950, 951, 952, 953, 954, 955, 956, 957, 958, 959, 960, 961] (by decide +kernel) (by decide +kernel)
set_option maxRecDepth 20000 in
theorem gL_law_X9_cheapest : GoodIn wsL_law (wsV RL 114 RX9 yX9_cheapest wsX9_cheapest) := goodIn_app (goodIn_of _ (by decide +kernel)) ggL_law_X9_cheapest
theorem wL_law_114 : CWV mL_law 114 mX9_cheapest 3 := ⟨gL_law_X9_cheapest, ⟨_, rfl⟩, rfl, by decide +kernel, by decide +kernel, by decide +kernel⟩
set_option maxRecDepth 20000 in
theorem ggL_law_X8_first : GoodIn wsL_law wsX8_first := goodIn_r _ [780, 45, 781, 782, 783, 44, 784, 785, 786, 787, 788, 789, 790, 791, 792, 793, 91, 794, 795, 796, 797, 798, 799, 800, 801, 802, 803, 804, 924, 925, 926, 927, 928, 929, 930, 931, 932, 933, 934, 935, 936, 985, 986, 987, 988, 989] (by decide +kernel) (by decide +kernel)
set_option maxRecDepth 20000 in
theorem gL_law_X8_first : GoodIn wsL_law (wsV RL 115 RX8 yX8_first wsX8_first) := goodIn_app (goodIn_of _ (by decide +kernel)) ggL_law_X8_first
theorem wL_law_115 : CWV mL_law 115 mX8_first 2 := ⟨gL_law_X8_first, ⟨_, rfl⟩, rfl, by decide +kernel, by decide +kernel, by decide +kernel⟩
set_option maxRecDepth 20000 in
theorem ggL_law_X9_first : GoodIn wsL_law wsX9_first := goodIn_r _ [808, 136, 809, 137, 138, 5, 139, 810, 811, 812, 813, 263, 101, 814, 815, 816, 937, 938, 939, 940, 941, 942, 943, 944, 945, 946, 947, 948, 949, 950, 951, 952, 953, 954, 955, 956, 957, 958, 959, 960, 961] (by decide +kernel) (by decide +kernel)
set_option maxRecDepth 20000 in
theorem gL_law_X9_first : GoodIn wsL_law (wsV RL 118 RX9 yX9_first wsX9_first) := goodIn_app (goodIn_of _ (by decide +kernel)) ggL_law_X9_first
theorem wL_law_118 : CWV mL_law 118 mX9_first 2 := ⟨gL_law_X9_first, ⟨_, rfl⟩, rfl, by decide +kernel, by decide +kernel, by decide +kernel⟩
set_option maxRecDepth 20000 in
theorem ggL_law_X8_seeds : GoodIn wsL_law wsX8_seeds := goodIn_r _ [820, 45, 821, 822, 823, 44, 824, 785, 786, 787, 788, 789, 794, 795, 796, 797, 798, 799, 800, 825, 782, 783, 784, 790, 791, 792, 793, 91, 826, 924, 925, 926, 927, 928, 929, 930, 931, 932, 933, 934, 935, 936, 985, 986, 987, 988, 989] (by decide +kernel) (by decide +kernel)
set_option maxRecDepth 20000 in
theorem gL_law_X8_seeds : GoodIn wsL_law (wsV RL 119 RX8 yX8_seeds wsX8_seeds) := goodIn_app (goodIn_of _ (by decide +kernel)) ggL_law_X8_seeds
theorem wL_law_119 : CWV mL_law 119 mX8_seeds 1 := ⟨gL_law_X8_seeds, ⟨_, rfl⟩, rfl, by decide +kernel, by decide +kernel, by decide +kernel⟩
set_option maxRecDepth 20000 in
theorem ggL_law_X9_seeds : GoodIn wsL_law wsX9_seeds := goodIn_r _ [830, 263, 137, 138, 5, 139, 814, 815, 816, 810, 811, 812, 813, 809, 101, 937, 938, 939, 940, 941, 942, 943, 944, 945, 946, 947, 948, 949, 950, 951, 952, 953, 954, 955, 956, 957, 958, 959, 960, 961] (by decide +kernel) (by decide +kernel)
set_option maxRecDepth 20000 in
theorem gL_law_X9_seeds : GoodIn wsL_law (wsV RL 122 RX9 yX9_seeds wsX9_seeds) := goodIn_app (goodIn_of _ (by decide +kernel)) ggL_law_X9_seeds
theorem wL_law_122 : CWV mL_law 122 mX9_seeds 1 := ⟨gL_law_X9_seeds, ⟨_, rfl⟩, rfl, by decide +kernel, by decide +kernel, by decide +kernel⟩
set_option maxRecDepth 20000 in
theorem ggL_law_X8_labour : GoodIn wsL_law wsX8_labour := goodIn_r _ [834, 298, 299, 300, 2, 301, 45, 153, 835, 836, 837, 838, 49, 20, 302, 303, 304, 19, 305, 306, 307, 308, 309, 310, 311, 312, 313, 58, 839, 840, 841, 842, 647, 843, 844, 845, 846, 847, 25, 409, 410, 411, 24, 412, 62, 848, 849, 850, 851, 852, 853, 295, 854, 855, 856, 857, 858, 333, 859, 860, 861, 862, 863, 864, 865, 866, 867, 868, 297, 924, 925, 926, 927, 928, 929, 930, 931, 932, 933, 934, 935, 936, 985, 986, 987, 988, 989, 968, 969] (by decide +kernel) (by decide +kernel)
set_option maxRecDepth 20000 in
theorem gL_law_X8_labour : GoodIn wsL_law (wsV RL 123 RX8 yX8_labour wsX8_labour) := goodIn_app (goodIn_of _ (by decide +kernel)) ggL_law_X8_labour
theorem wL_law_123 : CWV mL_law 123 mX8_labour 2 := ⟨gL_law_X8_labour, ⟨_, rfl⟩, rfl, by decide +kernel, by decide +kernel, by decide +kernel⟩
set_option maxRecDepth 20000 in
theorem ggL_law_X9_labour : GoodIn wsL_law wsX9_labour := goodIn_r _ [872, 873, 107, 102, 874, 875, 876, 877, 99, 878, 879, 880, 101, 137, 138, 5, 139, 318, 319, 320, 321, 263, 322, 323, 324, 325, 937, 938, 939, 940, 941, 942, 943, 944, 945, 946, 947, 948, 949, 950, 951, 952, 953, 954, 955, 956, 957, 958, 959, 960, 961] (by decide +kernel) (by decide +kernel)
set_option maxRecDepth 20000 in
theorem gL_law_X9_labour : GoodIn wsL_law (wsV RL 126 RX9 yX9_labour wsX9_labour) := goodIn_app (goodIn_of _ (by decide +kernel)) ggL_law_X9_labour
theorem wL_law_126 : CWV mL_law 126 mX9_labour 2 := ⟨gL_law_X9_labour, ⟨_, rfl⟩, rfl, by decide +kernel, by decide +kernel, by decide +kernel⟩
set_option maxRecDepth 20000 in
theorem ggL_law_X8_keep : GoodIn wsL_law wsX8_keep := goodIn_r _ [884, 41, 885, 20, 47, 886, 48, 887, 152, 888, 889, 2, 890, 713, 714, 715, 19, 716, 58, 717, 718, 719, 720, 468, 469, 470, 471, 472, 303, 304, 305, 306, 307, 308, 309, 310, 311, 312, 313, 924, 925, 926, 927, 928, 929, 930, 931, 932, 933, 934, 935, 936, 981, 982, 983, 984, 968] (by decide +kernel) (by decide +kernel)
set_option maxRecDepth 20000 in
theorem gL_law_X8_keep : GoodIn wsL_law (wsV RL 127 RX8 yX8_keep wsX8_keep) := goodIn_app (goodIn_of _ (by decide +kernel)) ggL_law_X8_keep
theorem wL_law_127 : CWV mL_law 127 mX8_keep 1 := ⟨gL_law_X8_keep, ⟨_, rfl⟩, rfl, by decide +kernel, by decide +kernel, by decide +kernel⟩
set_option maxRecDepth 20000 in
theorem ggL_law_X9_keep : GoodIn wsL_law wsX9_keep := goodIn_r _ [894, 106, 137, 138, 5, 139, 895, 896, 897, 898, 102, 103, 104, 520, 521, 522, 523, 357, 358, 359, 360, 263, 937, 938, 939, 940, 941, 942, 943, 944, 945, 946, 947, 948, 949, 950, 951, 952, 953, 954, 955, 956, 957, 958, 959, 960, 961] (by decide +kernel) (by decide +kernel)
set_option maxRecDepth 20000 in
theorem gL_law_X9_keep : GoodIn wsL_law (wsV RL 130 RX9 yX9_keep wsX9_keep) := goodIn_app (goodIn_of _ (by decide +kernel)) ggL_law_X9_keep
theorem wL_law_130 : CWV mL_law 130 mX9_keep 1 := ⟨gL_law_X9_keep, ⟨_, rfl⟩, rfl, by decide +kernel, by decide +kernel, by decide +kernel⟩
set_option maxRecDepth 20000 in
theorem ggL_law_X8_back : GoodIn wsL_law wsX8_back := goodIn_r _ [902, 41, 152, 20, 885, 886, 47, 887, 48, 888, 889, 2, 890, 713, 714, 715, 19, 716, 58, 717, 718, 719, 720, 468, 469, 470, 471, 472, 303, 304, 305, 306, 307, 308, 309, 310, 311, 312, 313, 924, 925, 926, 927, 928, 929, 930, 931, 932, 933, 934, 935, 936, 981, 982, 983, 984, 968] (by decide +kernel) (by decide +kernel)
set_option maxRecDepth 20000 in
theorem gL_law_X8_back : GoodIn wsL_law (wsV RL 131 RX8 yX8_back wsX8_back) := goodIn_app (goodIn_of _ (by decide +kernel)) ggL_law_X8_back
theorem wL_law_131 : CWV mL_law 131 mX8_back 1 := ⟨gL_law_X8_back, ⟨_, rfl⟩, rfl, by decide +kernel, by decide +kernel, by decide +kernel⟩
set_option maxRecDepth 20000 in
theorem ggL_law_X9_back : GoodIn wsL_law wsX9_back := goodIn_r _ [906, 106, 137, 138, 5, 139, 895, 896, 897, 898, 102, 103, 104, 520, 521, 522, 523, 357, 358, 359, 360, 263, 937, 938, 939, 940, 941, 942, 943, 944, 945, 946, 947, 948, 949, 950, 951, 952, 953, 954, 955, 956, 957, 958, 959, 960, 961] (by decide +kernel) (by decide +kernel)
set_option maxRecDepth 20000 in
theorem gL_law_X9_back : GoodIn wsL_law (wsV RL 134 RX9 yX9_back wsX9_back) := goodIn_app (goodIn_of _ (by decide +kernel)) ggL_law_X9_back
theorem wL_law_134 : CWV mL_law 134 mX9_back 1 := ⟨gL_law_X9_back, ⟨_, rfl⟩, rfl, by decide +kernel, by decide +kernel, by decide +kernel⟩
set_option maxRecDepth 20000 in
theorem ggL_law_X8_count : GoodIn wsL_law wsX8_count := goodIn_r _ [910, 45, 153, 20, 48, 16, 119, 29, 911, 468, 469, 470, 19, 471, 472, 303, 304, 305, 306, 307, 308, 309, 310, 311, 312, 313, 58, 690, 691, 692, 693, 694, 349, 350, 351, 924, 925, 926, 927, 928, 929, 930, 931, 932, 933, 934, 935, 936, 985, 986, 987, 988, 989, 962, 963, 964, 965, 966, 967, 970, 971, 972, 973, 974, 968] (by decide +kernel) (by decide +kernel)
set_option maxRecDepth 20000 in
theorem gL_law_X8_count : GoodIn wsL_law (wsV RL 135 RX8 yX8_count wsX8_count) := goodIn_app (goodIn_of _ (by decide +kernel)) ggL_law_X8_count
theorem wL_law_135 : CWV mL_law 135 mX8_count 1 := ⟨gL_law_X8_count, ⟨_, rfl⟩, rfl, by decide +kernel, by decide +kernel, by decide +kernel⟩
set_option maxRecDepth 20000 in
theorem ggL_law_X9_count : GoodIn wsL_law wsX9_count := goodIn_r _ [915, 263, 104, 135, 264, 520, 521, 522, 5, 523, 357, 358, 359, 360, 102, 699, 700, 701, 702, 937, 938, 939, 940, 941, 942, 943, 944, 945, 946, 947, 948, 949, 950, 951, 952, 953, 954, 955, 956, 957, 958, 959, 960, 961] (by decide +kernel) (by decide +kernel)
set_option maxRecDepth 20000 in
theorem gL_law_X9_count : GoodIn wsL_law (wsV RL 138 RX9 yX9_count wsX9_count) := goodIn_app (goodIn_of _ (by decide +kernel)) ggL_law_X9_count
theorem wL_law_138 : CWV mL_law 138 mX9_count 1 := ⟨gL_law_X9_count, ⟨_, rfl⟩, rfl, by decide +kernel, by decide +kernel, by decide +kernel⟩
set_option maxRecDepth 20000 in
theorem ggL_law_X8_trace : GoodIn wsL_law wsX8_trace := goodIn_r _ [919, 49, 924, 925, 926, 927, 928, 929, 930, 931, 932, 933, 934, 935, 936] (by decide +kernel) (by decide +kernel)
set_option maxRecDepth 20000 in
theorem gL_law_X8_trace : GoodIn wsL_law (wsV RL 139 RX8 yX8_trace wsX8_trace) := goodIn_app (goodIn_of _ (by decide +kernel)) ggL_law_X8_trace
theorem wL_law_139 : CWV mL_law 139 mX8_trace 0 := ⟨gL_law_X8_trace, ⟨_, rfl⟩, rfl, by decide +kernel, by decide +kernel, by decide +kernel⟩
set_option maxRecDepth 20000 in
theorem ggL_law_X9_trace : GoodIn wsL_law wsX9_trace := goodIn_r _ [923, 874, 937, 938, 939, 940, 941, 942, 943, 944, 945, 946, 947, 948, 949, 950, 951, 952, 953, 954, 955, 956, 957, 958, 959, 960, 961] (by decide +kernel) (by decide +kernel)
set_option maxRecDepth 20000 in
theorem gL_law_X9_trace : GoodIn wsL_law (wsV RL 143 RX9 yX9_trace wsX9_trace) := goodIn_app (goodIn_of _ (by decide +kernel)) ggL_law_X9_trace
theorem wL_law_143 : CWV mL_law 143 mX9_trace 0 := ⟨gL_law_X9_trace, ⟨_, rfl⟩, rfl, by decide +kernel, by decide +kernel, by decide +kernel⟩

