/-! THE LAW: its words -/
set_option maxRecDepth 20000 in
theorem inL_r21 : ∀ w ∈ wsL_law_r21, w ∈ lw_tbl := mem_p [520, 522, 11, 523, 524, 525, 526, 527, 528, 529, 530, 531, 532, 533, 534, 535, 536, 537, 538, 539, 540, 541, 542, 543] (by decide +kernel)
set_option maxRecDepth 20000 in
theorem inL_r22 : ∀ w ∈ wsL_law_r22, w ∈ lw_tbl := mem_p [544, 545, 546, 547, 548, 979, 980, 981, 982, 992, 1005, 983, 985, 40, 986, 987, 988, 990, 41, 991, 993, 995, 42, 996] (by decide +kernel)
set_option maxRecDepth 20000 in
theorem inL_r23 : ∀ w ∈ wsL_law_r23, w ∈ lw_tbl := mem_p [997, 999, 43, 1000, 1001, 1003, 44, 1004, 1006, 1007, 1008, 1009, 1010, 1011, 549, 550, 551, 552, 553, 554, 555, 556, 557, 559] (by decide +kernel)
set_option maxRecDepth 20000 in
theorem inL_r24 : ∀ w ∈ wsL_law_r24, w ∈ lw_tbl := mem_p [12, 560, 561, 563, 13, 564, 565, 566, 567, 568, 569, 571, 14, 572, 1012, 1013, 1014, 1015, 1016, 1018, 45, 1019, 1020, 1022] (by decide +kernel)
set_option maxRecDepth 20000 in
theorem inL_r25 : ∀ w ∈ wsL_law_r25, w ∈ lw_tbl := mem_p [46, 1023, 573, 574, 575, 576, 577, 578, 579, 580, 1024, 1025, 1026, 1027, 1028, 1030, 47, 1031, 581, 582, 583, 584, 585, 586] (by decide +kernel)
set_option maxRecDepth 20000 in
theorem inL_r26 : ∀ w ∈ wsL_law_r26, w ∈ lw_tbl := mem_p [587, 588, 589, 1032, 1033, 1034, 1035, 590, 591, 592, 593, 594, 595, 596, 597, 603, 598, 600, 15, 601, 602, 1036, 1037, 1038] (by decide +kernel)
set_option maxRecDepth 20000 in
theorem inL_r27 : ∀ w ∈ wsL_law_r27, w ∈ lw_tbl := mem_p [1039, 604, 605, 606, 607, 608, 610, 16, 611, 612, 614, 17, 615, 628, 629, 630, 616, 618, 18, 619, 620, 621, 622, 623] (by decide +kernel)
set_option maxRecDepth 20000 in
theorem inL_r28 : ∀ w ∈ wsL_law_r28, w ∈ lw_tbl := mem_p [624, 626, 19, 627, 1040, 1041, 1042, 1043, 1044, 1045, 1047, 48, 1048, 1049, 1051, 49, 1052, 631, 632, 633, 634, 635, 636, 637] (by decide +kernel)
set_option maxRecDepth 20000 in
theorem inL_r29 : ∀ w ∈ wsL_law_r29, w ∈ lw_tbl := mem_p [638, 639, 640, 641, 642, 1053, 1054, 1055, 1056, 1057, 1058, 1060, 50, 1061, 643, 644, 645, 646, 647, 648, 649, 650, 651, 1062] (by decide +kernel)
set_option maxRecDepth 20000 in
theorem inL_r30 : ∀ w ∈ wsL_law_r30, w ∈ lw_tbl := mem_p [1063, 1064, 1065, 1066, 1068, 51, 1069, 652, 653, 654, 655, 656, 657, 658, 659, 660, 661, 662, 663, 664, 665, 666, 668, 667] (by decide +kernel)

