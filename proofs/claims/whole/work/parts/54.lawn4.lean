/-! THE LAW: its words -/
set_option maxRecDepth 20000 in
theorem inT_1 : ∀ w ∈ wsX10, w ∈ lw_tbl := mem_p [202, 204, 206, 208] (by decide +kernel)
set_option maxRecDepth 20000 in
theorem inT_2 : ∀ w ∈ wsX20, w ∈ lw_tbl := mem_p [185] (by decide +kernel)
set_option maxRecDepth 20000 in
theorem inT_3 : ∀ w ∈ wsX30, w ∈ lw_tbl := mem_p [145, 147, 149, 151, 153] (by decide +kernel)
set_option maxRecDepth 20000 in
theorem inT_4 : ∀ w ∈ wsX40, w ∈ lw_tbl := mem_p [116] (by decide +kernel)
set_option maxRecDepth 20000 in
theorem inT_5 : ∀ w ∈ wsX50, w ∈ lw_tbl := mem_p [95, 97, 99, 101, 103, 105] (by decide +kernel)
set_option maxRecDepth 20000 in
theorem inT_6 : ∀ w ∈ wsX60, w ∈ lw_tbl := mem_p [232, 234, 236, 238, 240] (by decide +kernel)
set_option maxRecDepth 20000 in
theorem inT_7 : ∀ w ∈ wsX70, w ∈ lw_tbl := mem_p [126] (by decide +kernel)
set_option maxRecDepth 20000 in
theorem inT_8 : ∀ w ∈ wsX80, w ∈ lw_tbl := mem_p [256, 258, 260, 262, 264, 266, 268, 270, 272, 274, 276, 278, 280] (by decide +kernel)
set_option maxRecDepth 20000 in
theorem inT_9 : ∀ w ∈ wsX90, w ∈ lw_tbl := mem_p [823, 825, 827, 829, 831, 833, 835, 837, 839, 841, 843, 845, 847, 849, 851, 853, 855, 857, 859, 861, 863, 865, 867, 869, 871] (by decide +kernel)

