/-! THE LAW: its calls -/
set_option maxRecDepth 20000 in
theorem ggL_law_X8_met : GoodIn wsL_law wsX8_met := goodIn_r _ [447, 29, 448, 449, 450, 391, 924, 925, 926, 927, 928, 929, 930, 931, 932, 933, 934, 935, 936, 970, 971, 972, 973, 974] (by decide +kernel) (by decide +kernel)
set_option maxRecDepth 20000 in
theorem gL_law_X8_met : GoodIn wsL_law (wsV RL 60 RX8 yX8_met wsX8_met) := goodIn_app (goodIn_of _ (by decide +kernel)) ggL_law_X8_met
theorem wL_law_60 : CWV mL_law 60 mX8_met 1 := ⟨gL_law_X8_met, ⟨_, rfl⟩, rfl, by decide +kernel, by decide +kernel, by decide +kernel⟩
set_option maxRecDepth 20000 in
theorem ggL_law_X9_met : GoodIn wsL_law wsX9_met := goodIn_r _ [454, 455, 108, 137, 138, 5, 139, 937, 938, 939, 940, 941, 942, 943, 944, 945, 946, 947, 948, 949, 950, 951, 952, 953, 954, 955, 956, 957, 958, 959, 960, 961] (by decide +kernel) (by decide +kernel)
set_option maxRecDepth 20000 in
theorem gL_law_X9_met : GoodIn wsL_law (wsV RL 63 RX9 yX9_met wsX9_met) := goodIn_app (goodIn_of _ (by decide +kernel)) ggL_law_X9_met
theorem wL_law_63 : CWV mL_law 63 mX9_met 1 := ⟨gL_law_X9_met, ⟨_, rfl⟩, rfl, by decide +kernel, by decide +kernel, by decide +kernel⟩
set_option maxRecDepth 20000 in
theorem ggL_law_X8_gain : GoodIn wsL_law wsX8_gain := goodIn_r _ [459, 460, 33, 20, 25, 461, 462, 2, 463, 464, 465, 466, 467, 468, 469, 470, 19, 471, 472, 303, 304, 305, 306, 307, 308, 309, 310, 311, 312, 313, 58, 409, 410, 411, 24, 412, 62, 473, 474, 475, 32, 476, 477, 478, 73, 74, 75, 479, 349, 350, 351, 480, 481, 482, 483, 484, 485, 486, 487, 488, 489, 490, 491, 492, 493, 494, 495, 496, 176, 497, 498, 499, 500, 501, 502, 503, 504, 505, 506, 507, 508, 924, 925, 926, 927, 928, 929, 930, 931, 932, 933, 934, 935, 936, 968, 969, 975, 976, 977, 978, 979] (by decide +kernel) (by decide +kernel)
set_option maxRecDepth 20000 in
theorem gL_law_X8_gain : GoodIn wsL_law (wsV RL 64 RX8 yX8_gain wsX8_gain) := goodIn_app (goodIn_of _ (by decide +kernel)) ggL_law_X8_gain
theorem wL_law_64 : CWV mL_law 64 mX8_gain 4 := ⟨gL_law_X8_gain, ⟨_, rfl⟩, rfl, by decide +kernel, by decide +kernel, by decide +kernel⟩
set_option maxRecDepth 20000 in
theorem ggL_law_X9_gain : GoodIn wsL_law wsX9_gain := goodIn_r _ [512, 513, 514, 515, 516, 517, 5, 518, 519, 137, 138, 139, 520, 521, 522, 523, 357, 358, 359, 360, 263, 102, 524, 525, 526, 527, 528, 529, 530, 531, 532, 533, 534, 535, 107, 536, 537, 538, 539, 540, 541, 937, 938, 939, 940, 941, 942, 943, 944, 945, 946, 947, 948, 949, 950, 951, 952, 953, 954, 955, 956, 957, 958, 959, 960, 961] (by decide +kernel) (by decide +kernel)
set_option maxRecDepth 20000 in
theorem gL_law_X9_gain : GoodIn wsL_law (wsV RL 68 RX9 yX9_gain wsX9_gain) := goodIn_app (goodIn_of _ (by decide +kernel)) ggL_law_X9_gain
theorem wL_law_68 : CWV mL_law 68 mX9_gain 4 := ⟨gL_law_X9_gain, ⟨_, rfl⟩, rfl, by decide +kernel, by decide +kernel, by decide +kernel⟩
set_option maxRecDepth 20000 in
theorem ggL_law_X8_rests : GoodIn wsL_law wsX8_rests := goodIn_r _ [545, 33, 20, 25, 464, 465, 466, 2, 467, 468, 469, 470, 19, 471, 472, 303, 304, 305, 306, 307, 308, 309, 310, 311, 312, 313, 58, 409, 410, 411, 24, 412, 62, 473, 474, 475, 32, 476, 477, 478, 73, 74, 75, 479, 349, 350, 351, 480, 481, 482, 483, 546, 547, 548, 549, 550, 551, 552, 553, 554, 555, 556, 557, 558, 502, 503, 504, 559, 489, 490, 491, 560, 485, 486, 487, 561, 506, 507, 508, 562, 563, 564, 565, 924, 925, 926, 927, 928, 929, 930, 931, 932, 933, 934, 935, 936, 968, 969, 975, 976, 977, 978, 979] (by decide +kernel) (by decide +kernel)
set_option maxRecDepth 20000 in
theorem gL_law_X8_rests : GoodIn wsL_law (wsV RL 69 RX8 yX8_rests wsX8_rests) := goodIn_app (goodIn_of _ (by decide +kernel)) ggL_law_X8_rests
theorem wL_law_69 : CWV mL_law 69 mX8_rests 1 := ⟨gL_law_X8_rests, ⟨_, rfl⟩, rfl, by decide +kernel, by decide +kernel, by decide +kernel⟩
set_option maxRecDepth 20000 in
theorem ggL_law_X9_rests : GoodIn wsL_law wsX9_rests := goodIn_r _ [569, 519, 137, 138, 5, 139, 520, 521, 522, 523, 357, 358, 359, 360, 263, 102, 570, 571, 572, 573, 532, 533, 534, 535, 107, 528, 529, 530, 531, 524, 525, 526, 527, 574, 575, 576, 577, 937, 938, 939, 940, 941, 942, 943, 944, 945, 946, 947, 948, 949, 950, 951, 952, 953, 954, 955, 956, 957, 958, 959, 960, 961] (by decide +kernel) (by decide +kernel)
set_option maxRecDepth 20000 in
theorem gL_law_X9_rests : GoodIn wsL_law (wsV RL 72 RX9 yX9_rests wsX9_rests) := goodIn_app (goodIn_of _ (by decide +kernel)) ggL_law_X9_rests
theorem wL_law_72 : CWV mL_law 72 mX9_rests 1 := ⟨gL_law_X9_rests, ⟨_, rfl⟩, rfl, by decide +kernel, by decide +kernel, by decide +kernel⟩
set_option maxRecDepth 20000 in
theorem ggL_law_X8_goes : GoodIn wsL_law wsX8_goes := goodIn_r _ [581, 33, 20, 25, 464, 465, 466, 2, 467, 468, 469, 470, 19, 471, 472, 303, 304, 305, 306, 307, 308, 309, 310, 311, 312, 313, 58, 409, 410, 411, 24, 412, 62, 473, 474, 475, 32, 476, 477, 478, 73, 74, 75, 479, 349, 350, 351, 480, 481, 482, 483, 582, 583, 584, 585, 550, 551, 552, 553, 554, 555, 556, 557, 558, 502, 503, 504, 559, 489, 490, 491, 560, 485, 486, 487, 561, 506, 507, 508, 562, 563, 564, 565, 924, 925, 926, 927, 928, 929, 930, 931, 932, 933, 934, 935, 936, 968, 969, 975, 976, 977, 978, 979] (by decide +kernel) (by decide +kernel)
set_option maxRecDepth 20000 in
theorem gL_law_X8_goes : GoodIn wsL_law (wsV RL 73 RX8 yX8_goes wsX8_goes) := goodIn_app (goodIn_of _ (by decide +kernel)) ggL_law_X8_goes
theorem wL_law_73 : CWV mL_law 73 mX8_goes 2 := ⟨gL_law_X8_goes, ⟨_, rfl⟩, rfl, by decide +kernel, by decide +kernel, by decide +kernel⟩
set_option maxRecDepth 20000 in
theorem ggL_law_X9_goes : GoodIn wsL_law wsX9_goes := goodIn_r _ [589, 515, 516, 517, 5, 518, 519, 137, 138, 139, 520, 521, 522, 523, 357, 358, 359, 360, 263, 102, 590, 591, 592, 593, 570, 571, 572, 573, 532, 533, 534, 535, 107, 528, 529, 530, 531, 524, 525, 526, 527, 574, 575, 576, 577, 937, 938, 939, 940, 941, 942, 943, 944, 945, 946, 947, 948, 949, 950, 951, 952, 953, 954, 955, 956, 957, 958, 959, 960, 961] (by decide +kernel) (by decide +kernel)
set_option maxRecDepth 20000 in
theorem gL_law_X9_goes : GoodIn wsL_law (wsV RL 76 RX9 yX9_goes wsX9_goes) := goodIn_app (goodIn_of _ (by decide +kernel)) ggL_law_X9_goes
theorem wL_law_76 : CWV mL_law 76 mX9_goes 2 := ⟨gL_law_X9_goes, ⟨_, rfl⟩, rfl, by decide +kernel, by decide +kernel, by decide +kernel⟩
set_option maxRecDepth 20000 in
theorem ggL_law_X8_tip : GoodIn wsL_law wsX8_tip := goodIn_r _ [597, 33, 20, 25, 464, 465, 466, 2, 467, 468, 469, 470, 19, 471, 472, 303, 304, 305, 306, 307, 308, 309, 310, 311, 312, 313, 58, 409, 410, 411, 24, 412, 62, 473, 474, 475, 32, 476, 477, 478, 73, 74, 75, 479, 349, 350, 351, 480, 481, 482, 483, 598, 599, 600, 601, 602, 583, 584, 585, 550, 551, 552, 553, 554, 555, 556, 557, 558, 502, 503, 504, 559, 489, 490, 491, 560, 485, 486, 487, 561, 506, 507, 508, 562, 563, 564, 565, 924, 925, 926, 927, 928, 929, 930, 931, 932, 933, 934, 935, 936, 968, 969, 975, 976, 977, 978, 979] (by decide +kernel) (by decide +kernel)
set_option maxRecDepth 20000 in
theorem gL_law_X8_tip : GoodIn wsL_law (wsV RL 77 RX8 yX8_tip wsX8_tip) := goodIn_app (goodIn_of _ (by decide +kernel)) ggL_law_X8_tip
theorem wL_law_77 : CWV mL_law 77 mX8_tip 1 := ⟨gL_law_X8_tip, ⟨_, rfl⟩, rfl, by decide +kernel, by decide +kernel, by decide +kernel⟩
set_option maxRecDepth 20000 in
theorem ggL_law_X9_tip : GoodIn wsL_law wsX9_tip := goodIn_r _ [606, 519, 137, 138, 5, 139, 520, 521, 522, 523, 357, 358, 359, 360, 263, 102, 590, 591, 592, 593, 570, 571, 572, 573, 532, 533, 534, 535, 107, 528, 529, 530, 531, 524, 525, 526, 527, 574, 575, 576, 577, 937, 938, 939, 940, 941, 942, 943, 944, 945, 946, 947, 948, 949, 950, 951, 952, 953, 954, 955, 956, 957, 958, 959, 960, 961] (by decide +kernel) (by decide +kernel)
set_option maxRecDepth 20000 in
theorem gL_law_X9_tip : GoodIn wsL_law (wsV RL 80 RX9 yX9_tip wsX9_tip) := goodIn_app (goodIn_of _ (by decide +kernel)) ggL_law_X9_tip
theorem wL_law_80 : CWV mL_law 80 mX9_tip 1 := ⟨gL_law_X9_tip, ⟨_, rfl⟩, rfl, by decide +kernel, by decide +kernel, by decide +kernel⟩
set_option maxRecDepth 20000 in
theorem ggL_law_X8_out : GoodIn wsL_law wsX8_out := goodIn_r _ [610, 33, 20, 25, 464, 465, 466, 2, 467, 468, 469, 470, 19, 471, 472, 303, 304, 305, 306, 307, 308, 309, 310, 311, 312, 313, 58, 409, 410, 411, 24, 412, 62, 473, 474, 475, 32, 476, 477, 478, 73, 74, 75, 479, 349, 350, 351, 480, 481, 482, 483, 611, 612, 613, 614, 615, 616, 617, 618, 619, 620, 175, 176, 177, 924, 925, 926, 927, 928, 929, 930, 931, 932, 933, 934, 935, 936, 968, 969, 975, 976, 977, 978, 979] (by decide +kernel) (by decide +kernel)
set_option maxRecDepth 20000 in
theorem gL_law_X8_out : GoodIn wsL_law (wsV RL 81 RX8 yX8_out wsX8_out) := goodIn_app (goodIn_of _ (by decide +kernel)) ggL_law_X8_out
theorem wL_law_81 : CWV mL_law 81 mX8_out 2 := ⟨gL_law_X8_out, ⟨_, rfl⟩, rfl, by decide +kernel, by decide +kernel, by decide +kernel⟩
set_option maxRecDepth 20000 in
theorem ggL_law_X9_out : GoodIn wsL_law wsX9_out := goodIn_r _ [624, 515, 516, 517, 5, 518, 519, 137, 138, 139, 520, 521, 522, 523, 357, 358, 359, 360, 263, 102, 937, 938, 939, 940, 941, 942, 943, 944, 945, 946, 947, 948, 949, 950, 951, 952, 953, 954, 955, 956, 957, 958, 959, 960, 961] (by decide +kernel) (by decide +kernel)
set_option maxRecDepth 20000 in
theorem gL_law_X9_out : GoodIn wsL_law (wsV RL 84 RX9 yX9_out wsX9_out) := goodIn_app (goodIn_of _ (by decide +kernel)) ggL_law_X9_out
theorem wL_law_84 : CWV mL_law 84 mX9_out 2 := ⟨gL_law_X9_out, ⟨_, rfl⟩, rfl, by decide +kernel, by decide +kernel, by decide +kernel⟩
set_option maxRecDepth 20000 in
theorem ggL_law_X8_clip : GoodIn wsL_law wsX8_clip := goodIn_r _ [628, 460, 330, 331, 2, 332, 629, 630, 631, 632, 633, 634, 635, 636, 637, 638, 176, 639, 640, 641, 642, 643, 25, 409, 410, 411, 24, 412, 62, 644, 645, 646, 647, 648, 649, 650, 651, 461, 462, 463, 492, 493, 494, 495, 496, 497, 498, 499, 500, 924, 925, 926, 927, 928, 929, 930, 931, 932, 933, 934, 935, 936, 969] (by decide +kernel) (by decide +kernel)
set_option maxRecDepth 20000 in
theorem gL_law_X8_clip : GoodIn wsL_law (wsV RL 85 RX8 yX8_clip wsX8_clip) := goodIn_app (goodIn_of _ (by decide +kernel)) ggL_law_X8_clip
theorem wL_law_85 : CWV mL_law 85 mX8_clip 2 := ⟨gL_law_X8_clip, ⟨_, rfl⟩, rfl, by decide +kernel, by decide +kernel, by decide +kernel⟩
set_option maxRecDepth 20000 in
theorem ggL_law_X9_clip : GoodIn wsL_law wsX9_clip := goodIn_r _ [655, 342, 656, 513, 111, 514, 110, 137, 138, 5, 139, 657, 658, 659, 660, 107, 661, 662, 663, 664, 536, 537, 538, 539, 540, 541, 937, 938, 939, 940, 941, 942, 943, 944, 945, 946, 947, 948, 949, 950, 951, 952, 953, 954, 955, 956, 957, 958, 959, 960, 961] (by decide +kernel) (by decide +kernel)
set_option maxRecDepth 20000 in
theorem gL_law_X9_clip : GoodIn wsL_law (wsV RL 89 RX9 yX9_clip wsX9_clip) := goodIn_app (goodIn_of _ (by decide +kernel)) ggL_law_X9_clip
theorem wL_law_89 : CWV mL_law 89 mX9_clip 2 := ⟨gL_law_X9_clip, ⟨_, rfl⟩, rfl, by decide +kernel, by decide +kernel, by decide +kernel⟩
set_option maxRecDepth 20000 in
theorem ggL_law_X8_year : GoodIn wsL_law wsX8_year := goodIn_r _ [668, 48, 25, 20, 409, 410, 411, 24, 412, 62, 669, 670, 2, 671, 672, 673, 674, 19, 675, 676, 175, 176, 177, 310, 311, 312, 313, 58, 417, 335, 336, 337, 924, 925, 926, 927, 928, 929, 930, 931, 932, 933, 934, 935, 936, 969, 968] (by decide +kernel) (by decide +kernel)
set_option maxRecDepth 20000 in
theorem gL_law_X8_year : GoodIn wsL_law (wsV RL 90 RX8 yX8_year wsX8_year) := goodIn_app (goodIn_of _ (by decide +kernel)) ggL_law_X8_year
theorem wL_law_90 : CWV mL_law 90 mX8_year 1 := ⟨gL_law_X8_year, ⟨_, rfl⟩, rfl, by decide +kernel, by decide +kernel, by decide +kernel⟩
set_option maxRecDepth 20000 in
theorem ggL_law_X9_year : GoodIn wsL_law wsX9_year := goodIn_r _ [680, 681, 104, 107, 137, 138, 5, 139, 682, 683, 684, 685, 102, 937, 938, 939, 940, 941, 942, 943, 944, 945, 946, 947, 948, 949, 950, 951, 952, 953, 954, 955, 956, 957, 958, 959, 960, 961] (by decide +kernel) (by decide +kernel)
set_option maxRecDepth 20000 in
theorem gL_law_X9_year : GoodIn wsL_law (wsV RL 93 RX9 yX9_year wsX9_year) := goodIn_app (goodIn_of _ (by decide +kernel)) ggL_law_X9_year
theorem wL_law_93 : CWV mL_law 93 mX9_year 1 := ⟨gL_law_X9_year, ⟨_, rfl⟩, rfl, by decide +kernel, by decide +kernel, by decide +kernel⟩
set_option maxRecDepth 20000 in
theorem ggL_law_X8_mean : GoodIn wsL_law wsX8_mean := goodIn_r _ [689, 20, 460, 468, 469, 470, 19, 471, 472, 303, 304, 305, 306, 307, 308, 309, 310, 311, 312, 313, 58, 461, 462, 2, 463, 690, 691, 692, 693, 694, 349, 350, 351, 492, 493, 494, 495, 496, 176, 497, 498, 499, 500, 924, 925, 926, 927, 928, 929, 930, 931, 932, 933, 934, 935, 936, 968] (by decide +kernel) (by decide +kernel)
set_option maxRecDepth 20000 in
theorem gL_law_X8_mean : GoodIn wsL_law (wsV RL 94 RX8 yX8_mean wsX8_mean) := goodIn_app (goodIn_of _ (by decide +kernel)) ggL_law_X8_mean
theorem wL_law_94 : CWV mL_law 94 mX8_mean 1 := ⟨gL_law_X8_mean, ⟨_, rfl⟩, rfl, by decide +kernel, by decide +kernel, by decide +kernel⟩
set_option maxRecDepth 20000 in
theorem ggL_law_X9_mean : GoodIn wsL_law wsX9_mean := goodIn_r _ [698, 513, 137, 138, 5, 139, 520, 521, 522, 523, 357, 358, 359, 360, 263, 102, 699, 700, 701, 702, 536, 537, 538, 539, 540, 541, 937, 938, 939, 940, 941, 942, 943, 944, 945, 946, 947, 948, 949, 950, 951, 952, 953, 954, 955, 956, 957, 958, 959, 960, 961] (by decide +kernel) (by decide +kernel)
set_option maxRecDepth 20000 in
theorem gL_law_X9_mean : GoodIn wsL_law (wsV RL 98 RX9 yX9_mean wsX9_mean) := goodIn_app (goodIn_of _ (by decide +kernel)) ggL_law_X9_mean
theorem wL_law_98 : CWV mL_law 98 mX9_mean 1 := ⟨gL_law_X9_mean, ⟨_, rfl⟩, rfl, by decide +kernel, by decide +kernel, by decide +kernel⟩
set_option maxRecDepth 20000 in
theorem ggL_law_X8_shabby : GoodIn wsL_law wsX8_shabby := goodIn_r _ [706, 20, 21, 25, 48, 468, 469, 470, 19, 471, 472, 303, 304, 305, 306, 307, 308, 309, 310, 311, 312, 313, 58, 707, 708, 709, 710, 711, 691, 692, 693, 694, 349, 350, 351, 712, 713, 714, 715, 716, 717, 718, 719, 720, 409, 410, 411, 24, 412, 62, 669, 670, 2, 671, 672, 673, 674, 675, 676, 175, 176, 177, 417, 335, 336, 337, 924, 925, 926, 927, 928, 929, 930, 931, 932, 933, 934, 935, 936, 968, 969] (by decide +kernel) (by decide +kernel)
set_option maxRecDepth 20000 in
theorem gL_law_X8_shabby : GoodIn wsL_law (wsV RL 99 RX8 yX8_shabby wsX8_shabby) := goodIn_app (goodIn_of _ (by decide +kernel)) ggL_law_X8_shabby
theorem wL_law_99 : CWV mL_law 99 mX8_shabby 1 := ⟨gL_law_X8_shabby, ⟨_, rfl⟩, rfl, by decide +kernel, by decide +kernel, by decide +kernel⟩
set_option maxRecDepth 20000 in
theorem ggL_law_X9_shabby : GoodIn wsL_law wsX9_shabby := goodIn_r _ [724, 725, 112, 102, 104, 107, 137, 138, 5, 139, 520, 521, 522, 523, 357, 358, 359, 360, 263, 682, 683, 684, 685, 699, 700, 701, 702, 937, 938, 939, 940, 941, 942, 943, 944, 945, 946, 947, 948, 949, 950, 951, 952, 953, 954, 955, 956, 957, 958, 959, 960, 961] (by decide +kernel) (by decide +kernel)
set_option maxRecDepth 20000 in
theorem gL_law_X9_shabby : GoodIn wsL_law (wsV RL 102 RX9 yX9_shabby wsX9_shabby) := goodIn_app (goodIn_of _ (by decide +kernel)) ggL_law_X9_shabby
theorem wL_law_102 : CWV mL_law 102 mX9_shabby 1 := ⟨gL_law_X9_shabby, ⟨_, rfl⟩, rfl, by decide +kernel, by decide +kernel, by decide +kernel⟩

