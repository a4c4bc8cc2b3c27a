/-! THE LAW: its words -/
set_option maxRecDepth 20000 in
theorem inL_r31 : ∀ w ∈ wsL_law_r31, w ∈ lw_tbl := mem_p [72, 1070, 1071, 1072, 1073, 1074, 669, 670, 671, 672, 673, 675, 20, 676, 1075, 1076, 1077, 1078, 1079, 1081, 52, 1082, 677, 678] (by decide +kernel)
set_option maxRecDepth 20000 in
theorem inL_r32 : ∀ w ∈ wsL_law_r32, w ∈ lw_tbl := mem_p [679, 680, 681, 682, 683, 684, 1083, 1084, 1085, 1086, 685, 686, 687, 688, 689, 690, 691, 692, 693, 694, 695, 696, 697, 698] (by decide +kernel)
set_option maxRecDepth 20000 in
theorem inL_r33 : ∀ w ∈ wsL_law_r33, w ∈ lw_tbl := mem_p [1087, 1088, 1089, 1090, 1091, 1092, 1094, 53, 1095, 699, 700, 701, 702, 703, 704, 705, 706, 707, 709, 21, 710, 229, 711, 713] (by decide +kernel)
set_option maxRecDepth 20000 in
theorem inL_r34 : ∀ w ∈ wsL_law_r34, w ∈ lw_tbl := mem_p [22, 714, 715, 716, 73, 717, 718, 719, 720, 721, 722, 723, 724, 1096, 1097, 1098, 1099, 822, 1100, 1102, 54, 1103, 1104, 1105] (by decide +kernel)
set_option maxRecDepth 20000 in
theorem inL_r35 : ∀ w ∈ wsL_law_r35, w ∈ lw_tbl := mem_p [1106, 725, 726, 727, 728, 729, 730, 731, 732, 733, 734, 1107, 1108, 1109, 1110, 735, 736, 737, 738, 739, 741, 23, 742, 743] (by decide +kernel)
set_option maxRecDepth 20000 in
theorem inL_r36 : ∀ w ∈ wsL_law_r36, w ∈ lw_tbl := mem_p [745, 24, 746, 747, 749, 25, 750, 751, 752, 753, 755, 26, 756, 757, 758, 760, 27, 761, 762, 763, 765, 28, 766, 767] (by decide +kernel)
set_option maxRecDepth 20000 in
theorem inL_r37 : ∀ w ∈ wsL_law_r37, w ∈ lw_tbl := mem_p [768, 770, 29, 771, 772, 1111, 1112, 1113, 1114, 1115, 798, 1116, 1117, 1118, 1119, 1120, 1121, 773, 774, 775, 776, 198, 199, 200] (by decide +kernel)
set_option maxRecDepth 20000 in
theorem inL_r38 : ∀ w ∈ wsL_law_r38, w ∈ lw_tbl := mem_p [777, 778, 779, 1122, 1123, 1124, 1125, 1126, 1128, 55, 1129, 780, 781, 782, 783, 1130, 1131, 1132, 1133, 784, 785, 786, 787, 144] (by decide +kernel)
set_option maxRecDepth 20000 in
theorem inL_r39 : ∀ w ∈ wsL_law_r39, w ∈ lw_tbl := mem_p [1134, 1135, 1136, 1137, 788, 789, 790, 791, 1138, 1139, 1140, 1141] (by decide +kernel)
set_option maxRecDepth 20000 in
theorem inT_0 : ∀ w ∈ wsX00, w ∈ lw_tbl := mem_p [167, 169, 171, 173, 175] (by decide +kernel)

