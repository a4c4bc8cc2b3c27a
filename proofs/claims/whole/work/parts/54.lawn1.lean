/-! THE LAW: its words -/
set_option maxRecDepth 20000 in
theorem inL_r11 : ∀ w ∈ wsL_law_r11, w ∈ lw_tbl := mem_p [4, 390, 218, 221, 225, 228, 391, 392, 393, 394, 395, 396, 397, 398, 143, 889, 890, 891, 892, 806, 810, 808, 809, 801] (by decide +kernel)
set_option maxRecDepth 20000 in
theorem inL_r12 : ∀ w ∈ wsL_law_r12, w ∈ lw_tbl := mem_p [817, 893, 895, 30, 896, 807, 901, 902, 911, 912, 897, 899, 31, 900, 903, 905, 32, 906, 907, 909, 33, 910, 913, 915] (by decide +kernel)
set_option maxRecDepth 20000 in
theorem inL_r13 : ∀ w ∈ wsL_law_r13, w ∈ lw_tbl := mem_p [34, 916, 400, 401, 402, 403, 219, 222, 224, 227, 404, 406, 5, 407, 408, 409, 410, 411, 412, 413, 414, 415, 416, 417] (by decide +kernel)
set_option maxRecDepth 20000 in
theorem inL_r14 : ∀ w ∈ wsL_law_r14, w ∈ lw_tbl := mem_p [418, 419, 917, 918, 919, 920, 921, 923, 35, 924, 925, 927, 36, 928, 420, 421, 422, 423, 424, 425, 426, 427, 428, 429] (by decide +kernel)
set_option maxRecDepth 20000 in
theorem inL_r15 : ∀ w ∈ wsL_law_r15, w ∈ lw_tbl := mem_p [430, 431, 929, 930, 931, 932, 933, 934, 432, 433, 434, 435, 436, 437, 438, 439, 935, 936, 937, 938, 939, 940, 942, 37] (by decide +kernel)
set_option maxRecDepth 20000 in
theorem inL_r16 : ∀ w ∈ wsL_law_r16, w ∈ lw_tbl := mem_p [943, 440, 441, 442, 443, 444, 445, 446, 447, 448, 450, 944, 945, 946, 947, 948, 949, 950, 951, 452, 453, 454, 455, 952] (by decide +kernel)
set_option maxRecDepth 20000 in
theorem inL_r17 : ∀ w ∈ wsL_law_r17, w ∈ lw_tbl := mem_p [953, 954, 955, 456, 457, 458, 459, 142, 460, 462, 6, 463, 464, 466, 7, 467, 468, 469, 471, 8, 472, 473, 475, 9] (by decide +kernel)
set_option maxRecDepth 20000 in
theorem inL_r18 : ∀ w ∈ wsL_law_r18, w ∈ lw_tbl := mem_p [476, 477, 478, 479, 480, 481, 482, 483, 484, 485, 486, 487, 488, 489, 956, 957, 958, 959, 960, 962, 38, 963, 964, 966] (by decide +kernel)
set_option maxRecDepth 20000 in
theorem inL_r19 : ∀ w ∈ wsL_law_r19, w ∈ lw_tbl := mem_p [39, 967, 968, 490, 491, 492, 493, 969, 970, 971, 972, 973, 494, 495, 496, 497, 136, 138, 140, 974, 975, 976, 977, 978] (by decide +kernel)
set_option maxRecDepth 20000 in
theorem inL_r20 : ∀ w ∈ wsL_law_r20, w ∈ lw_tbl := mem_p [498, 499, 500, 501, 514, 502, 503, 504, 505, 507, 10, 508, 509, 510, 511, 512, 513, 515, 516, 517, 518, 165, 166, 519] (by decide +kernel)

