/-! THE CONSTRUCTORS of the class and of the reference -/
abbrev mX8_init : mT := (yX8_init, RX8, cX8_init, 1, none, wsX8_init)
abbrev rX8_init : Room := { frames := 3, cells := 32, slots := 831, locals := 80 }
theorem dX8_init_0 : decode cX8_init 0 = .ok (.aload_n 0, 1) := by decide +kernel
theorem dX8_init_1 : decode cX8_init 1 = .ok (.invokespecial 1, 3) := by decide +kernel
theorem dX8_init_4 : decode cX8_init 4 = .ok (.aload_n 0, 1) := by decide +kernel
theorem dX8_init_5 : decode cX8_init 5 = .ok (.new 7, 3) := by decide +kernel
theorem dX8_init_8 : decode cX8_init 8 = .ok (.dup, 1) := by decide +kernel
theorem dX8_init_9 : decode cX8_init 9 = .ok (.invokespecial 9, 3) := by decide +kernel
theorem dX8_init_12 : decode cX8_init 12 = .ok (.putfield 10, 3) := by decide +kernel
theorem dX8_init_15 : decode cX8_init 15 = .ok (.aload_n 0, 1) := by decide +kernel
theorem dX8_init_16 : decode cX8_init 16 = .ok (.new 16, 3) := by decide +kernel
theorem dX8_init_19 : decode cX8_init 19 = .ok (.dup, 1) := by decide +kernel
theorem dX8_init_20 : decode cX8_init 20 = .ok (.invokespecial 18, 3) := by decide +kernel
theorem dX8_init_23 : decode cX8_init 23 = .ok (.putfield 19, 3) := by decide +kernel
theorem dX8_init_26 : decode cX8_init 26 = .ok (.aload_n 0, 1) := by decide +kernel
theorem dX8_init_27 : decode cX8_init 27 = .ok (.new 16, 3) := by decide +kernel
theorem dX8_init_30 : decode cX8_init 30 = .ok (.dup, 1) := by decide +kernel
theorem dX8_init_31 : decode cX8_init 31 = .ok (.invokespecial 18, 3) := by decide +kernel
theorem dX8_init_34 : decode cX8_init 34 = .ok (.putfield 23, 3) := by decide +kernel
theorem dX8_init_37 : decode cX8_init 37 = .ok (.aload_n 0, 1) := by decide +kernel
theorem dX8_init_38 : decode cX8_init 38 = .ok (.new 26, 3) := by decide +kernel
theorem dX8_init_41 : decode cX8_init 41 = .ok (.dup, 1) := by decide +kernel
theorem dX8_init_42 : decode cX8_init 42 = .ok (.invokespecial 28, 3) := by decide +kernel
theorem dX8_init_45 : decode cX8_init 45 = .ok (.putfield 29, 3) := by decide +kernel
theorem dX8_init_48 : decode cX8_init 48 = .ok (.aload_n 0, 1) := by decide +kernel
theorem dX8_init_49 : decode cX8_init 49 = .ok (.new 33, 3) := by decide +kernel
theorem dX8_init_52 : decode cX8_init 52 = .ok (.dup, 1) := by decide +kernel
theorem dX8_init_53 : decode cX8_init 53 = .ok (.invokespecial 35, 3) := by decide +kernel
theorem dX8_init_56 : decode cX8_init 56 = .ok (.putfield 36, 3) := by decide +kernel
theorem dX8_init_59 : decode cX8_init 59 = .ok (.aload_n 0, 1) := by decide +kernel
theorem dX8_init_60 : decode cX8_init 60 = .ok (.new 40, 3) := by decide +kernel
theorem dX8_init_63 : decode cX8_init 63 = .ok (.dup, 1) := by decide +kernel
theorem dX8_init_64 : decode cX8_init 64 = .ok (.invokespecial 42, 3) := by decide +kernel
theorem dX8_init_67 : decode cX8_init 67 = .ok (.putfield 43, 3) := by decide +kernel
theorem dX8_init_70 : decode cX8_init 70 = .ok (.aload_n 0, 1) := by decide +kernel
theorem dX8_init_71 : decode cX8_init 71 = .ok (.new 47, 3) := by decide +kernel
theorem dX8_init_74 : decode cX8_init 74 = .ok (.dup, 1) := by decide +kernel
theorem dX8_init_75 : decode cX8_init 75 = .ok (.invokespecial 49, 3) := by decide +kernel
theorem dX8_init_78 : decode cX8_init 78 = .ok (.putfield 50, 3) := by decide +kernel
theorem dX8_init_81 : decode cX8_init 81 = .ok (.aload_n 0, 1) := by decide +kernel
theorem dX8_init_82 : decode cX8_init 82 = .ok (.iconst 2, 1) := by decide +kernel
theorem dX8_init_83 : decode cX8_init 83 = .ok (.anewarray 54, 3) := by decide +kernel
theorem dX8_init_86 : decode cX8_init 86 = .ok (.dup, 1) := by decide +kernel
theorem dX8_init_87 : decode cX8_init 87 = .ok (.iconst 0, 1) := by decide +kernel
theorem dX8_init_88 : decode cX8_init 88 = .ok (.new 54, 3) := by decide +kernel
theorem dX8_init_91 : decode cX8_init 91 = .ok (.dup, 1) := by decide +kernel
theorem dX8_init_92 : decode cX8_init 92 = .ok (.invokespecial 56, 3) := by decide +kernel
theorem dX8_init_95 : decode cX8_init 95 = .ok (.aastore, 1) := by decide +kernel
theorem dX8_init_96 : decode cX8_init 96 = .ok (.dup, 1) := by decide +kernel
theorem dX8_init_97 : decode cX8_init 97 = .ok (.iconst 1, 1) := by decide +kernel
theorem dX8_init_98 : decode cX8_init 98 = .ok (.new 54, 3) := by decide +kernel
theorem dX8_init_101 : decode cX8_init 101 = .ok (.dup, 1) := by decide +kernel
theorem dX8_init_102 : decode cX8_init 102 = .ok (.invokespecial 56, 3) := by decide +kernel
theorem dX8_init_105 : decode cX8_init 105 = .ok (.aastore, 1) := by decide +kernel
theorem dX8_init_106 : decode cX8_init 106 = .ok (.putfield 57, 3) := by decide +kernel
theorem dX8_init_109 : decode cX8_init 109 = .ok (.aload_n 0, 1) := by decide +kernel
theorem dX8_init_110 : decode cX8_init 110 = .ok (.new 61, 3) := by decide +kernel
theorem dX8_init_113 : decode cX8_init 113 = .ok (.dup, 1) := by decide +kernel
theorem dX8_init_114 : decode cX8_init 114 = .ok (.invokespecial 63, 3) := by decide +kernel
theorem dX8_init_117 : decode cX8_init 117 = .ok (.putfield 64, 3) := by decide +kernel
theorem dX8_init_120 : decode cX8_init 120 = .ok (.aload_n 0, 1) := by decide +kernel
theorem dX8_init_121 : decode cX8_init 121 = .ok (.new 61, 3) := by decide +kernel
theorem dX8_init_124 : decode cX8_init 124 = .ok (.dup, 1) := by decide +kernel
theorem dX8_init_125 : decode cX8_init 125 = .ok (.invokespecial 63, 3) := by decide +kernel
theorem dX8_init_128 : decode cX8_init 128 = .ok (.putfield 68, 3) := by decide +kernel
theorem dX8_init_131 : decode cX8_init 131 = .ok (.aload_n 0, 1) := by decide +kernel
theorem dX8_init_132 : decode cX8_init 132 = .ok (.iconst 1, 1) := by decide +kernel
theorem dX8_init_133 : decode cX8_init 133 = .ok (.putfield 71, 3) := by decide +kernel
theorem dX8_init_136 : decode cX8_init 136 = .ok (.aload_n 0, 1) := by decide +kernel
theorem dX8_init_137 : decode cX8_init 137 = .ok (.iconst 0, 1) := by decide +kernel
theorem dX8_init_138 : decode cX8_init 138 = .ok (.putfield 75, 3) := by decide +kernel
theorem dX8_init_141 : decode cX8_init 141 = .ok (.aload_n 0, 1) := by decide +kernel
theorem dX8_init_142 : decode cX8_init 142 = .ok (.lconst 0, 1) := by decide +kernel
theorem dX8_init_143 : decode cX8_init 143 = .ok (.putfield 78, 3) := by decide +kernel
theorem dX8_init_146 : decode cX8_init 146 = .ok (.return_, 1) := by decide +kernel
theorem iX8_init_8 : ∀ w ∈ wsX80, w ∈ wsX8_init := fun w h => List.mem_cons_of_mem _ (List.mem_append_left _ (List.mem_append_left _ (List.mem_append_left _ (List.mem_append_left _ (List.mem_append_left _ (List.mem_append_left _ (List.mem_append_left _ (List.mem_append_right _ h))))))))
theorem pX8_init_10 : FP mX8_init 10 8 0 (.object "LightCoins$Text") true := ⟨_, _, _, tyX8, rfl, by decide, iX8_init_8, by decide +kernel, tyX8_ok, nmX8, rfl, rfl, fun _ => rfl⟩
theorem pX8_init_19 : FP mX8_init 19 8 1 (.object "LightCoins$Purses") true := ⟨_, _, _, tyX8, rfl, by decide, iX8_init_8, by decide +kernel, tyX8_ok, nmX8, rfl, rfl, fun _ => rfl⟩
theorem pX8_init_23 : FP mX8_init 23 8 2 (.object "LightCoins$Purses") true := ⟨_, _, _, tyX8, rfl, by decide, iX8_init_8, by decide +kernel, tyX8_ok, nmX8, rfl, rfl, fun _ => rfl⟩
theorem pX8_init_29 : FP mX8_init 29 8 3 (.object "LightCoins$Tunes") true := ⟨_, _, _, tyX8, rfl, by decide, iX8_init_8, by decide +kernel, tyX8_ok, nmX8, rfl, rfl, fun _ => rfl⟩
theorem pX8_init_36 : FP mX8_init 36 8 4 (.object "LightCoins$Meeting") true := ⟨_, _, _, tyX8, rfl, by decide, iX8_init_8, by decide +kernel, tyX8_ok, nmX8, rfl, rfl, fun _ => rfl⟩
theorem pX8_init_43 : FP mX8_init 43 8 5 (.object "LightCoins$Day") true := ⟨_, _, _, tyX8, rfl, by decide, iX8_init_8, by decide +kernel, tyX8_ok, nmX8, rfl, rfl, fun _ => rfl⟩
theorem pX8_init_50 : FP mX8_init 50 8 6 (.object "LightCoins$Laws") true := ⟨_, _, _, tyX8, rfl, by decide, iX8_init_8, by decide +kernel, tyX8_ok, nmX8, rfl, rfl, fun _ => rfl⟩
theorem pX8_init_57 : FP mX8_init 57 8 7 (.array (.object "LightCoins$Image")) true := ⟨_, _, _, tyX8, rfl, by decide, iX8_init_8, by decide +kernel, tyX8_ok, nmX8, rfl, rfl, fun _ => rfl⟩
theorem pX8_init_64 : FP mX8_init 64 8 8 (.object "LightCoins$Town") false := ⟨_, _, _, tyX8, rfl, by decide, iX8_init_8, by decide +kernel, tyX8_ok, nmX8, rfl, rfl, fun z => absurd z (by decide)⟩
theorem pX8_init_68 : FP mX8_init 68 8 9 (.object "LightCoins$Town") false := ⟨_, _, _, tyX8, rfl, by decide, iX8_init_8, by decide +kernel, tyX8_ok, nmX8, rfl, rfl, fun z => absurd z (by decide)⟩
theorem pX8_init_71 : FP mX8_init 71 8 10 .int false := ⟨_, _, _, tyX8, rfl, by decide, iX8_init_8, by decide +kernel, tyX8_ok, nmX8, rfl, rfl, fun z => absurd z (by decide)⟩
theorem pX8_init_75 : FP mX8_init 75 8 11 .int false := ⟨_, _, _, tyX8, rfl, by decide, iX8_init_8, by decide +kernel, tyX8_ok, nmX8, rfl, rfl, fun z => absurd z (by decide)⟩
theorem pX8_init_78 : FP mX8_init 78 8 12 .long false := ⟨_, _, _, tyX8, rfl, by decide, iX8_init_8, by decide +kernel, tyX8_ok, nmX8, rfl, rfl, fun z => absurd z (by decide)⟩
set_option maxRecDepth 20000 in
theorem ggX8_init_X5_init : GoodIn wsX8_init wsX5_init := goodIn_r _ [42, 43, 2, 3, 44, 45, 83, 84, 85, 86, 87, 88] (by decide +kernel) (by decide +kernel)
set_option maxRecDepth 20000 in
theorem gX8_init_X5_init_n9 : GoodIn wsX8_init (wsX5_init) := ggX8_init_X5_init
theorem ciX8_init_X5_init : CWI mX8_init mX5_init := ⟨gX8_init_X5_init_n9, ⟨_, rfl⟩, by decide +kernel, by decide +kernel, rfl, by decide +kernel, by decide +kernel, by decide +kernel⟩
set_option maxRecDepth 20000 in
theorem ggX8_init_X4_init : GoodIn wsX8_init wsX4_init := goodIn_r _ [47, 48, 2, 3, 44, 49, 102] (by decide +kernel) (by decide +kernel)
set_option maxRecDepth 20000 in
theorem gX8_init_X4_init_n18 : GoodIn wsX8_init (wsX4_init) := ggX8_init_X4_init
theorem ciX8_init_X4_init : CWI mX8_init mX4_init := ⟨gX8_init_X4_init_n18, ⟨_, rfl⟩, by decide +kernel, by decide +kernel, rfl, by decide +kernel, by decide +kernel, by decide +kernel⟩
set_option maxRecDepth 20000 in
theorem ggX8_init_X7_init : GoodIn wsX8_init wsX7_init := goodIn_r _ [51, 52, 2, 3, 44, 53, 103] (by decide +kernel) (by decide +kernel)
set_option maxRecDepth 20000 in
theorem gX8_init_X7_init_n28 : GoodIn wsX8_init (wsX7_init) := ggX8_init_X7_init
theorem ciX8_init_X7_init : CWI mX8_init mX7_init := ⟨gX8_init_X7_init_n28, ⟨_, rfl⟩, by decide +kernel, by decide +kernel, rfl, by decide +kernel, by decide +kernel, by decide +kernel⟩
set_option maxRecDepth 20000 in
theorem ggX8_init_X3_init : GoodIn wsX8_init wsX3_init := goodIn_r _ [55, 56, 2, 3, 57, 58, 59, 60, 104, 105, 106, 107, 108] (by decide +kernel) (by decide +kernel)
set_option maxRecDepth 20000 in
theorem gX8_init_X3_init_n35 : GoodIn wsX8_init (wsX3_init) := ggX8_init_X3_init
theorem ciX8_init_X3_init : CWI mX8_init mX3_init := ⟨gX8_init_X3_init_n35, ⟨_, rfl⟩, by decide +kernel, by decide +kernel, rfl, by decide +kernel, by decide +kernel, by decide +kernel⟩
set_option maxRecDepth 20000 in
theorem ggX8_init_X0_init : GoodIn wsX8_init wsX0_init := goodIn_r _ [62, 63, 2, 3, 44, 64, 65, 66, 109, 110, 111, 112, 113] (by decide +kernel) (by decide +kernel)
set_option maxRecDepth 20000 in
theorem gX8_init_X0_init_n42 : GoodIn wsX8_init (wsX0_init) := ggX8_init_X0_init
theorem ciX8_init_X0_init : CWI mX8_init mX0_init := ⟨gX8_init_X0_init_n42, ⟨_, rfl⟩, by decide +kernel, by decide +kernel, rfl, by decide +kernel, by decide +kernel, by decide +kernel⟩
set_option maxRecDepth 20000 in
theorem ggX8_init_X2_init : GoodIn wsX8_init wsX2_init := goodIn_r _ [68, 69, 2, 3, 44, 70, 114] (by decide +kernel) (by decide +kernel)
set_option maxRecDepth 20000 in
theorem gX8_init_X2_init_n49 : GoodIn wsX8_init (wsX2_init) := ggX8_init_X2_init
theorem ciX8_init_X2_init : CWI mX8_init mX2_init := ⟨gX8_init_X2_init_n49, ⟨_, rfl⟩, by decide +kernel, by decide +kernel, rfl, by decide +kernel, by decide +kernel, by decide +kernel⟩
set_option maxRecDepth 20000 in
theorem ggX8_init_X1_init : GoodIn wsX8_init wsX1_init := goodIn_r _ [72, 73, 2, 3, 74, 9, 10, 75, 46, 47, 48, 44, 49, 102, 115, 116, 117, 118] (by decide +kernel) (by decide +kernel)
set_option maxRecDepth 20000 in
theorem gX8_init_X1_init_n56 : GoodIn wsX8_init (wsX1_init) := ggX8_init_X1_init
theorem ciX8_init_X1_init : CWI mX8_init mX1_init := ⟨gX8_init_X1_init_n56, ⟨_, rfl⟩, by decide +kernel, by decide +kernel, rfl, by decide +kernel, by decide +kernel, by decide +kernel⟩
set_option maxRecDepth 20000 in
theorem ggX8_init_X6_init : GoodIn wsX8_init wsX6_init := goodIn_r _ [77, 78, 2, 3, 44, 79, 80, 81, 82, 119, 120, 121, 122, 123] (by decide +kernel) (by decide +kernel)
set_option maxRecDepth 20000 in
theorem gX8_init_X6_init_n63 : GoodIn wsX8_init (wsX6_init) := ggX8_init_X6_init
theorem ciX8_init_X6_init : CWI mX8_init mX6_init := ⟨gX8_init_X6_init_n63, ⟨_, rfl⟩, by decide +kernel, by decide +kernel, rfl, by decide +kernel, by decide +kernel, by decide +kernel⟩
abbrev mX9_init : mT := (yX9_init, RX9, cX9_init, 2, none, wsX9_init)
abbrev rX9_init : Room := { frames := 1, cells := 15, slots := 749, locals := 40 }
theorem dX9_init_0 : decode cX9_init 0 = .ok (.aload_n 0, 1) := by decide +kernel
theorem dX9_init_1 : decode cX9_init 1 = .ok (.invokespecial 1, 3) := by decide +kernel
theorem dX9_init_4 : decode cX9_init 4 = .ok (.aload_n 0, 1) := by decide +kernel
theorem dX9_init_5 : decode cX9_init 5 = .ok (.sipush 300, 3) := by decide +kernel
theorem dX9_init_8 : decode cX9_init 8 = .ok (.newarray .byte, 2) := by decide +kernel
theorem dX9_init_10 : decode cX9_init 10 = .ok (.putfield 7, 3) := by decide +kernel
theorem dX9_init_13 : decode cX9_init 13 = .ok (.aload_n 0, 1) := by decide +kernel
theorem dX9_init_14 : decode cX9_init 14 = .ok (.bipush 16, 2) := by decide +kernel
theorem dX9_init_16 : decode cX9_init 16 = .ok (.newarray .int, 2) := by decide +kernel
theorem dX9_init_18 : decode cX9_init 18 = .ok (.putfield 13, 3) := by decide +kernel
theorem dX9_init_21 : decode cX9_init 21 = .ok (.aload_n 0, 1) := by decide +kernel
theorem dX9_init_22 : decode cX9_init 22 = .ok (.bipush 16, 2) := by decide +kernel
theorem dX9_init_24 : decode cX9_init 24 = .ok (.newarray .int, 2) := by decide +kernel
theorem dX9_init_26 : decode cX9_init 26 = .ok (.putfield 17, 3) := by decide +kernel
theorem dX9_init_29 : decode cX9_init 29 = .ok (.aload_n 0, 1) := by decide +kernel
theorem dX9_init_30 : decode cX9_init 30 = .ok (.bipush 16, 2) := by decide +kernel
theorem dX9_init_32 : decode cX9_init 32 = .ok (.newarray .int, 2) := by decide +kernel
theorem dX9_init_34 : decode cX9_init 34 = .ok (.putfield 20, 3) := by decide +kernel
theorem dX9_init_37 : decode cX9_init 37 = .ok (.aload_n 0, 1) := by decide +kernel
theorem dX9_init_38 : decode cX9_init 38 = .ok (.bipush 16, 2) := by decide +kernel
theorem dX9_init_40 : decode cX9_init 40 = .ok (.newarray .int, 2) := by decide +kernel
theorem dX9_init_42 : decode cX9_init 42 = .ok (.putfield 23, 3) := by decide +kernel
theorem dX9_init_45 : decode cX9_init 45 = .ok (.aload_n 0, 1) := by decide +kernel
theorem dX9_init_46 : decode cX9_init 46 = .ok (.sipush 240, 3) := by decide +kernel
theorem dX9_init_49 : decode cX9_init 49 = .ok (.newarray .int, 2) := by decide +kernel
theorem dX9_init_51 : decode cX9_init 51 = .ok (.putfield 26, 3) := by decide +kernel
theorem dX9_init_54 : decode cX9_init 54 = .ok (.aload_n 0, 1) := by decide +kernel
theorem dX9_init_55 : decode cX9_init 55 = .ok (.iconst 3, 1) := by decide +kernel
theorem dX9_init_56 : decode cX9_init 56 = .ok (.newarray .int, 2) := by decide +kernel
theorem dX9_init_58 : decode cX9_init 58 = .ok (.putfield 29, 3) := by decide +kernel
theorem dX9_init_61 : decode cX9_init 61 = .ok (.aload_n 0, 1) := by decide +kernel
theorem dX9_init_62 : decode cX9_init 62 = .ok (.iconst 3, 1) := by decide +kernel
theorem dX9_init_63 : decode cX9_init 63 = .ok (.newarray .int, 2) := by decide +kernel
theorem dX9_init_65 : decode cX9_init 65 = .ok (.putfield 32, 3) := by decide +kernel
theorem dX9_init_68 : decode cX9_init 68 = .ok (.aload_n 0, 1) := by decide +kernel
theorem dX9_init_69 : decode cX9_init 69 = .ok (.iconst 2, 1) := by decide +kernel
theorem dX9_init_70 : decode cX9_init 70 = .ok (.newarray .boolean, 2) := by decide +kernel
theorem dX9_init_72 : decode cX9_init 72 = .ok (.putfield 35, 3) := by decide +kernel
theorem dX9_init_75 : decode cX9_init 75 = .ok (.aload_n 0, 1) := by decide +kernel
theorem dX9_init_76 : decode cX9_init 76 = .ok (.bipush 6, 2) := by decide +kernel
theorem dX9_init_78 : decode cX9_init 78 = .ok (.newarray .int, 2) := by decide +kernel
theorem dX9_init_80 : decode cX9_init 80 = .ok (.putfield 39, 3) := by decide +kernel
theorem dX9_init_83 : decode cX9_init 83 = .ok (.aload_n 0, 1) := by decide +kernel
theorem dX9_init_84 : decode cX9_init 84 = .ok (.iconst 4, 1) := by decide +kernel
theorem dX9_init_85 : decode cX9_init 85 = .ok (.newarray .int, 2) := by decide +kernel
theorem dX9_init_87 : decode cX9_init 87 = .ok (.putfield 42, 3) := by decide +kernel
theorem dX9_init_90 : decode cX9_init 90 = .ok (.aload_n 0, 1) := by decide +kernel
theorem dX9_init_91 : decode cX9_init 91 = .ok (.bipush 10, 2) := by decide +kernel
theorem dX9_init_93 : decode cX9_init 93 = .ok (.newarray .long, 2) := by decide +kernel
theorem dX9_init_95 : decode cX9_init 95 = .ok (.putfield 45, 3) := by decide +kernel
theorem dX9_init_98 : decode cX9_init 98 = .ok (.aload_n 0, 1) := by decide +kernel
theorem dX9_init_99 : decode cX9_init 99 = .ok (.bipush 10, 2) := by decide +kernel
theorem dX9_init_101 : decode cX9_init 101 = .ok (.newarray .boolean, 2) := by decide +kernel
theorem dX9_init_103 : decode cX9_init 103 = .ok (.putfield 49, 3) := by decide +kernel
theorem dX9_init_106 : decode cX9_init 106 = .ok (.aload_n 0, 1) := by decide +kernel
theorem dX9_init_107 : decode cX9_init 107 = .ok (.bipush 80, 2) := by decide +kernel
theorem dX9_init_109 : decode cX9_init 109 = .ok (.newarray .int, 2) := by decide +kernel
theorem dX9_init_111 : decode cX9_init 111 = .ok (.putfield 52, 3) := by decide +kernel
theorem dX9_init_114 : decode cX9_init 114 = .ok (.aload_n 0, 1) := by decide +kernel
theorem dX9_init_115 : decode cX9_init 115 = .ok (.bipush 27, 2) := by decide +kernel
theorem dX9_init_117 : decode cX9_init 117 = .ok (.newarray .int, 2) := by decide +kernel
theorem dX9_init_119 : decode cX9_init 119 = .ok (.putfield 55, 3) := by decide +kernel
theorem dX9_init_122 : decode cX9_init 122 = .ok (.aload_n 0, 1) := by decide +kernel
theorem dX9_init_123 : decode cX9_init 123 = .ok (.getfield 39, 3) := by decide +kernel
theorem dX9_init_126 : decode cX9_init 126 = .ok (.iconst 0, 1) := by decide +kernel
theorem dX9_init_127 : decode cX9_init 127 = .ok (.iconst 2, 1) := by decide +kernel
theorem dX9_init_128 : decode cX9_init 128 = .ok (.iastore, 1) := by decide +kernel
theorem dX9_init_129 : decode cX9_init 129 = .ok (.aload_n 0, 1) := by decide +kernel
theorem dX9_init_130 : decode cX9_init 130 = .ok (.getfield 39, 3) := by decide +kernel
theorem dX9_init_133 : decode cX9_init 133 = .ok (.iconst 1, 1) := by decide +kernel
theorem dX9_init_134 : decode cX9_init 134 = .ok (.iconst 5, 1) := by decide +kernel
theorem dX9_init_135 : decode cX9_init 135 = .ok (.iastore, 1) := by decide +kernel
theorem dX9_init_136 : decode cX9_init 136 = .ok (.aload_n 0, 1) := by decide +kernel
theorem dX9_init_137 : decode cX9_init 137 = .ok (.getfield 39, 3) := by decide +kernel
theorem dX9_init_140 : decode cX9_init 140 = .ok (.iconst 2, 1) := by decide +kernel
theorem dX9_init_141 : decode cX9_init 141 = .ok (.bipush 20, 2) := by decide +kernel
theorem dX9_init_143 : decode cX9_init 143 = .ok (.iastore, 1) := by decide +kernel
theorem dX9_init_144 : decode cX9_init 144 = .ok (.aload_n 0, 1) := by decide +kernel
theorem dX9_init_145 : decode cX9_init 145 = .ok (.getfield 39, 3) := by decide +kernel
theorem dX9_init_148 : decode cX9_init 148 = .ok (.iconst 3, 1) := by decide +kernel
theorem dX9_init_149 : decode cX9_init 149 = .ok (.iconst 1, 1) := by decide +kernel
theorem dX9_init_150 : decode cX9_init 150 = .ok (.iastore, 1) := by decide +kernel
theorem dX9_init_151 : decode cX9_init 151 = .ok (.aload_n 0, 1) := by decide +kernel
theorem dX9_init_152 : decode cX9_init 152 = .ok (.getfield 39, 3) := by decide +kernel
theorem dX9_init_155 : decode cX9_init 155 = .ok (.iconst 4, 1) := by decide +kernel
theorem dX9_init_156 : decode cX9_init 156 = .ok (.iconst 1, 1) := by decide +kernel
theorem dX9_init_157 : decode cX9_init 157 = .ok (.iastore, 1) := by decide +kernel
theorem dX9_init_158 : decode cX9_init 158 = .ok (.aload_n 0, 1) := by decide +kernel
theorem dX9_init_159 : decode cX9_init 159 = .ok (.getfield 39, 3) := by decide +kernel
theorem dX9_init_162 : decode cX9_init 162 = .ok (.iconst 5, 1) := by decide +kernel
theorem dX9_init_163 : decode cX9_init 163 = .ok (.bipush 20, 2) := by decide +kernel
theorem dX9_init_165 : decode cX9_init 165 = .ok (.iastore, 1) := by decide +kernel
theorem dX9_init_166 : decode cX9_init 166 = .ok (.aload_n 0, 1) := by decide +kernel
theorem dX9_init_167 : decode cX9_init 167 = .ok (.getfield 29, 3) := by decide +kernel
theorem dX9_init_170 : decode cX9_init 170 = .ok (.iconst 0, 1) := by decide +kernel
theorem dX9_init_171 : decode cX9_init 171 = .ok (.iconst 1, 1) := by decide +kernel
theorem dX9_init_172 : decode cX9_init 172 = .ok (.iastore, 1) := by decide +kernel
theorem dX9_init_173 : decode cX9_init 173 = .ok (.iconst 0, 1) := by decide +kernel
theorem dX9_init_174 : decode cX9_init 174 = .ok (.istore_n 1, 1) := by decide +kernel
theorem dX9_init_175 : decode cX9_init 175 = .ok (.iload_n 1, 1) := by decide +kernel
theorem dX9_init_176 : decode cX9_init 176 = .ok (.iconst 4, 1) := by decide +kernel
theorem dX9_init_177 : decode cX9_init 177 = .ok (.if_icmp .ge 17, 3) := by decide +kernel
theorem dX9_init_180 : decode cX9_init 180 = .ok (.aload_n 0, 1) := by decide +kernel
theorem dX9_init_181 : decode cX9_init 181 = .ok (.getfield 42, 3) := by decide +kernel
theorem dX9_init_184 : decode cX9_init 184 = .ok (.iload_n 1, 1) := by decide +kernel
theorem dX9_init_185 : decode cX9_init 185 = .ok (.bipush (-9), 2) := by decide +kernel
theorem dX9_init_187 : decode cX9_init 187 = .ok (.iastore, 1) := by decide +kernel
theorem dX9_init_188 : decode cX9_init 188 = .ok (.iinc 1 1, 3) := by decide +kernel
theorem dX9_init_191 : decode cX9_init 191 = .ok (.goto (-16), 3) := by decide +kernel
theorem dX9_init_194 : decode cX9_init 194 = .ok (.return_, 1) := by decide +kernel
theorem iX9_init_9 : ∀ w ∈ wsX90, w ∈ wsX9_init := fun w h => List.mem_cons_of_mem _ (List.mem_append_right _ h)
theorem pX9_init_7 : FP mX9_init 7 9 1 (.array .byte) true := ⟨_, _, _, tyX9, rfl, by decide, iX9_init_9, by decide +kernel, tyX9_ok, nmX9, rfl, rfl, fun _ => rfl⟩
theorem pX9_init_13 : FP mX9_init 13 9 4 (.array .int) true := ⟨_, _, _, tyX9, rfl, by decide, iX9_init_9, by decide +kernel, tyX9_ok, nmX9, rfl, rfl, fun _ => rfl⟩
theorem pX9_init_17 : FP mX9_init 17 9 5 (.array .int) true := ⟨_, _, _, tyX9, rfl, by decide, iX9_init_9, by decide +kernel, tyX9_ok, nmX9, rfl, rfl, fun _ => rfl⟩
theorem pX9_init_20 : FP mX9_init 20 9 6 (.array .int) true := ⟨_, _, _, tyX9, rfl, by decide, iX9_init_9, by decide +kernel, tyX9_ok, nmX9, rfl, rfl, fun _ => rfl⟩
theorem pX9_init_23 : FP mX9_init 23 9 7 (.array .int) true := ⟨_, _, _, tyX9, rfl, by decide, iX9_init_9, by decide +kernel, tyX9_ok, nmX9, rfl, rfl, fun _ => rfl⟩
theorem pX9_init_26 : FP mX9_init 26 9 13 (.array .int) true := ⟨_, _, _, tyX9, rfl, by decide, iX9_init_9, by decide +kernel, tyX9_ok, nmX9, rfl, rfl, fun _ => rfl⟩
theorem fX9_init_29 : FL mX9_init 29 9 14 := ⟨_, _, _, rfl, by decide, iX9_init_9, by decide +kernel⟩
theorem pX9_init_29 : FP mX9_init 29 9 14 (.array .int) true := ⟨_, _, _, tyX9, rfl, by decide, iX9_init_9, by decide +kernel, tyX9_ok, nmX9, rfl, rfl, fun _ => rfl⟩
theorem pX9_init_32 : FP mX9_init 32 9 15 (.array .int) true := ⟨_, _, _, tyX9, rfl, by decide, iX9_init_9, by decide +kernel, tyX9_ok, nmX9, rfl, rfl, fun _ => rfl⟩
theorem pX9_init_35 : FP mX9_init 35 9 16 (.array .boolean) true := ⟨_, _, _, tyX9, rfl, by decide, iX9_init_9, by decide +kernel, tyX9_ok, nmX9, rfl, rfl, fun _ => rfl⟩
theorem fX9_init_39 : FL mX9_init 39 9 17 := ⟨_, _, _, rfl, by decide, iX9_init_9, by decide +kernel⟩
theorem pX9_init_39 : FP mX9_init 39 9 17 (.array .int) true := ⟨_, _, _, tyX9, rfl, by decide, iX9_init_9, by decide +kernel, tyX9_ok, nmX9, rfl, rfl, fun _ => rfl⟩
theorem fX9_init_42 : FL mX9_init 42 9 18 := ⟨_, _, _, rfl, by decide, iX9_init_9, by decide +kernel⟩
theorem pX9_init_42 : FP mX9_init 42 9 18 (.array .int) true := ⟨_, _, _, tyX9, rfl, by decide, iX9_init_9, by decide +kernel, tyX9_ok, nmX9, rfl, rfl, fun _ => rfl⟩
theorem pX9_init_45 : FP mX9_init 45 9 20 (.array .long) true := ⟨_, _, _, tyX9, rfl, by decide, iX9_init_9, by decide +kernel, tyX9_ok, nmX9, rfl, rfl, fun _ => rfl⟩
theorem pX9_init_49 : FP mX9_init 49 9 21 (.array .boolean) true := ⟨_, _, _, tyX9, rfl, by decide, iX9_init_9, by decide +kernel, tyX9_ok, nmX9, rfl, rfl, fun _ => rfl⟩
theorem pX9_init_52 : FP mX9_init 52 9 22 (.array .int) true := ⟨_, _, _, tyX9, rfl, by decide, iX9_init_9, by decide +kernel, tyX9_ok, nmX9, rfl, rfl, fun _ => rfl⟩
theorem pX9_init_55 : FP mX9_init 55 9 23 (.array .int) true := ⟨_, _, _, tyX9, rfl, by decide, iX9_init_9, by decide +kernel, tyX9_ok, nmX9, rfl, rfl, fun _ => rfl⟩
section
variable {Γ : gT} {l : Launch} {ws : va_W} {i a : Nat}
set_option maxRecDepth 100000 in
set_option maxHeartbeats 4000000 in
theorem i_X8 (hi : ws[i]? = some (a, ob 8 [.null, .null, .null, .null, .null, .null, .null, .null, .null, .null, .int 0, .int 0, .long 0])) : ConU Γ l mX8_init rX8_init [.ref a] ws (mkQ ws i a (fun q => xo (q 0) (q 2) (q 4) (q 6) (q 8) (q 9) (q 13) (q 15) (q 22) (q 27) 1 0 0) (fun q => [(q 0, ob 5 [.ref (q 1), .int 0, .int 0, .int 0, .int 0, .int 0]), (q 1, aI Γ 300 (fun _ => 0)), (q 2, ob 4 [.ref (q 3)]), (q 3, aI Γ 80 (fun _ => 0)), (q 4, ob 4 [.ref (q 5)]), (q 5, aI Γ 80 (fun _ => 0)), (q 6, ob 7 [.ref (q 7)]), (q 7, aI Γ 6 tu0), (q 8, ob 3 [.int (-9), .int (-9), .int (-9), .int (-9), .int 0]), (q 9, ob 0 [.ref (q 10), .ref (q 11), .ref (q 12), .int 0, .int 0]), (q 10, aI Γ 10 (fun _ => 0)), (q 11, aI Γ 31 (fun _ => 0)), (q 12, aI Γ 31 (fun _ => 0)), (q 13, ob 2 [.ref (q 14)]), (q 14, aI Γ 27 (fun _ => 0)), (q 15, aO Γ 2 (va_up (va_up (fun _ => none) 0 (some (q 16))) 1 (some (q 19)))), (q 16, ob 1 [.ref (q 17), .int 0, .int 0, .int 0]), (q 17, ob 4 [.ref (q 18)]), (q 18, aI Γ 80 (fun _ => 0)), (q 19, ob 1 [.ref (q 20), .int 0, .int 0, .int 0]), (q 20, ob 4 [.ref (q 21)]), (q 21, aI Γ 80 (fun _ => 0)), (q 22, ob 6 [.ref (q 23), .ref (q 24), .ref (q 25), .ref (q 26), .int 0]), (q 23, aI Γ 8 (fun _ => 0)), (q 24, aI Γ 8 (fun _ => 0)), (q 25, aI Γ 8 (fun _ => 0)), (q 26, aI Γ 8 (fun _ => 0)), (q 27, ob 6 [.ref (q 28), .ref (q 29), .ref (q 30), .ref (q 31), .int 0]), (q 28, aI Γ 8 (fun _ => 0)), (q 29, aI Γ 8 (fun _ => 0)), (q 30, aI Γ 8 (fun _ => 0)), (q 31, aI Γ 8 (fun _ => 0))])) := by
  refine ConU.of (by decide +kernel) rfl rfl (Nat.le_of_ble_eq_true rfl) ?_
  refine U.w (ws' := pw ws i (a, ob 8 [.null, .null, .null, .null, .null, .null, .null, .null, .null, .null, .int 0, .int 0, .long 0]) []) ?_ (pw_0 hi)
  refine u_aload_n dX8_init_0 rfl rfl ?_
  refine u_obj dX8_init_1 (by decide +kernel) (Nat.le_of_ble_eq_true rfl) (Nat.le_of_ble_eq_true rfl) ?_
  refine u_aload_n dX8_init_4 rfl rfl ?_
  refine up_new (ci := 5) (fs := [.null, .int 0, .int 0, .int 0, .int 0, .int 0]) (ty := tyX5) dX8_init_5 rfl (fun w h => List.mem_cons_of_mem _ (List.mem_append_left _ (List.mem_append_left _ (List.mem_append_left _ (List.mem_append_left _ (List.mem_append_left _ (List.mem_append_left _ (List.mem_append_left _ (List.mem_append_left _ (List.mem_append_right _ h)))))))))) tyX5_ok (by decide +kernel) df5 (Nat.le_of_ble_eq_true rfl) (Nat.le_of_ble_eq_true rfl) (fun q1 => ?_)
  dsimp only [List.set_cons_zero, List.set_cons_succ, List.cons_append, List.nil_append]
  refine u_dup dX8_init_8 rfl ?_
  refine up_callN (k := 0) dX8_init_9 ciX8_init_X5_init (by decide +kernel) rfl (fun ws i hi => i_X5 hi) (Nat.le_of_ble_eq_true rfl) ⟨⟨Nat.le_of_ble_eq_true rfl, Nat.le_of_ble_eq_true rfl⟩, Nat.le_of_ble_eq_true rfl, Nat.le_of_ble_eq_true rfl⟩ (fun q2 => ?_)
  dsimp only [List.set_cons_zero, List.set_cons_succ, List.cons_append, List.nil_append]
  refine up_putF hi dX8_init_12 pX8_init_10 rfl rfl rfl (Nat.le_of_ble_eq_true rfl) ?_
  dsimp only [List.set_cons_zero, List.set_cons_succ, List.cons_append, List.nil_append]
  refine u_aload_n dX8_init_15 rfl rfl ?_
  refine up_new (ci := 4) (fs := [.null]) (ty := tyX4) dX8_init_16 rfl (fun w h => List.mem_cons_of_mem _ (List.mem_append_left _ (List.mem_append_left _ (List.mem_append_left _ (List.mem_append_left _ (List.mem_append_left _ (List.mem_append_left _ (List.mem_append_right _ h)))))))) tyX4_ok (by decide +kernel) df4 (Nat.le_of_ble_eq_true rfl) (Nat.le_of_ble_eq_true rfl) (fun q3 => ?_)
  dsimp only [List.set_cons_zero, List.set_cons_succ, List.cons_append, List.nil_append]
  refine u_dup dX8_init_19 rfl ?_
  refine up_callN (k := 2) dX8_init_20 ciX8_init_X4_init (by decide +kernel) rfl (fun ws i hi => i_X4 hi) (Nat.le_of_ble_eq_true rfl) ⟨⟨Nat.le_of_ble_eq_true rfl, Nat.le_of_ble_eq_true rfl⟩, Nat.le_of_ble_eq_true rfl, Nat.le_of_ble_eq_true rfl⟩ (fun q4 => ?_)
  dsimp only [List.set_cons_zero, List.set_cons_succ, List.cons_append, List.nil_append]
  refine up_putF hi dX8_init_23 pX8_init_19 rfl rfl rfl (Nat.le_of_ble_eq_true rfl) ?_
  dsimp only [List.set_cons_zero, List.set_cons_succ, List.cons_append, List.nil_append]
  refine u_aload_n dX8_init_26 rfl rfl ?_
  refine up_new (ci := 4) (fs := [.null]) (ty := tyX4) dX8_init_27 rfl (fun w h => List.mem_cons_of_mem _ (List.mem_append_left _ (List.mem_append_left _ (List.mem_append_left _ (List.mem_append_left _ (List.mem_append_left _ (List.mem_append_left _ (List.mem_append_right _ h)))))))) tyX4_ok (by decide +kernel) df4 (Nat.le_of_ble_eq_true rfl) (Nat.le_of_ble_eq_true rfl) (fun q5 => ?_)
  dsimp only [List.set_cons_zero, List.set_cons_succ, List.cons_append, List.nil_append]
  refine u_dup dX8_init_30 rfl ?_
  refine up_callN (k := 4) dX8_init_31 ciX8_init_X4_init (by decide +kernel) rfl (fun ws i hi => i_X4 hi) (Nat.le_of_ble_eq_true rfl) ⟨⟨Nat.le_of_ble_eq_true rfl, Nat.le_of_ble_eq_true rfl⟩, Nat.le_of_ble_eq_true rfl, Nat.le_of_ble_eq_true rfl⟩ (fun q6 => ?_)
  dsimp only [List.set_cons_zero, List.set_cons_succ, List.cons_append, List.nil_append]
  refine up_putF hi dX8_init_34 pX8_init_23 rfl rfl rfl (Nat.le_of_ble_eq_true rfl) ?_
  dsimp only [List.set_cons_zero, List.set_cons_succ, List.cons_append, List.nil_append]
  refine u_aload_n dX8_init_37 rfl rfl ?_
  refine up_new (ci := 7) (fs := [.null]) (ty := tyX7) dX8_init_38 rfl (fun w h => List.mem_cons_of_mem _ (List.mem_append_left _ (List.mem_append_left _ (List.mem_append_left _ (List.mem_append_left _ (List.mem_append_left _ (List.mem_append_right _ h))))))) tyX7_ok (by decide +kernel) df7 (Nat.le_of_ble_eq_true rfl) (Nat.le_of_ble_eq_true rfl) (fun q7 => ?_)
  dsimp only [List.set_cons_zero, List.set_cons_succ, List.cons_append, List.nil_append]
  refine u_dup dX8_init_41 rfl ?_
  refine up_callN (k := 6) dX8_init_42 ciX8_init_X7_init (by decide +kernel) rfl (fun ws i hi => i_X7 hi) (Nat.le_of_ble_eq_true rfl) ⟨⟨Nat.le_of_ble_eq_true rfl, Nat.le_of_ble_eq_true rfl⟩, Nat.le_of_ble_eq_true rfl, Nat.le_of_ble_eq_true rfl⟩ (fun q8 => ?_)
  dsimp only [List.set_cons_zero, List.set_cons_succ, List.cons_append, List.nil_append]
  refine up_putF hi dX8_init_45 pX8_init_29 rfl rfl rfl (Nat.le_of_ble_eq_true rfl) ?_
  dsimp only [List.set_cons_zero, List.set_cons_succ, List.cons_append, List.nil_append]
  refine u_aload_n dX8_init_48 rfl rfl ?_
  refine up_new (ci := 3) (fs := [.int 0, .int 0, .int 0, .int 0, .int 0]) (ty := tyX3) dX8_init_49 rfl (fun w h => List.mem_cons_of_mem _ (List.mem_append_left _ (List.mem_append_left _ (List.mem_append_left _ (List.mem_append_left _ (List.mem_append_right _ h)))))) tyX3_ok (by decide +kernel) df3 (Nat.le_of_ble_eq_true rfl) (Nat.le_of_ble_eq_true rfl) (fun q9 => ?_)
  dsimp only [List.set_cons_zero, List.set_cons_succ, List.cons_append, List.nil_append]
  refine u_dup dX8_init_52 rfl ?_
  refine up_callN (k := 8) dX8_init_53 ciX8_init_X3_init (by decide +kernel) rfl (fun ws i hi => i_X3 hi) (Nat.le_of_ble_eq_true rfl) ⟨⟨Nat.le_of_ble_eq_true rfl, Nat.le_of_ble_eq_true rfl⟩, Nat.le_of_ble_eq_true rfl, Nat.le_of_ble_eq_true rfl⟩ (fun q10 => ?_)
  dsimp only [List.set_cons_zero, List.set_cons_succ, List.cons_append, List.nil_append]
  refine up_putF hi dX8_init_56 pX8_init_36 rfl rfl rfl (Nat.le_of_ble_eq_true rfl) ?_
  dsimp only [List.set_cons_zero, List.set_cons_succ, List.cons_append, List.nil_append]
  refine u_aload_n dX8_init_59 rfl rfl ?_
  refine up_new (ci := 0) (fs := [.null, .null, .null, .int 0, .int 0]) (ty := tyX0) dX8_init_60 rfl (fun w h => List.mem_cons_of_mem _ (List.mem_append_left _ (List.mem_append_left _ (List.mem_append_left _ (List.mem_append_right _ h))))) tyX0_ok (by decide +kernel) df0 (Nat.le_of_ble_eq_true rfl) (Nat.le_of_ble_eq_true rfl) (fun q11 => ?_)
  dsimp only [List.set_cons_zero, List.set_cons_succ, List.cons_append, List.nil_append]
  refine u_dup dX8_init_63 rfl ?_
  refine up_callN (k := 9) dX8_init_64 ciX8_init_X0_init (by decide +kernel) rfl (fun ws i hi => i_X0 hi) (Nat.le_of_ble_eq_true rfl) ⟨⟨Nat.le_of_ble_eq_true rfl, Nat.le_of_ble_eq_true rfl⟩, Nat.le_of_ble_eq_true rfl, Nat.le_of_ble_eq_true rfl⟩ (fun q12 => ?_)
  dsimp only [List.set_cons_zero, List.set_cons_succ, List.cons_append, List.nil_append]
  refine up_putF hi dX8_init_67 pX8_init_43 rfl rfl rfl (Nat.le_of_ble_eq_true rfl) ?_
  dsimp only [List.set_cons_zero, List.set_cons_succ, List.cons_append, List.nil_append]
  refine u_aload_n dX8_init_70 rfl rfl ?_
  refine up_new (ci := 2) (fs := [.null]) (ty := tyX2) dX8_init_71 rfl (fun w h => List.mem_cons_of_mem _ (List.mem_append_left _ (List.mem_append_left _ (List.mem_append_right _ h)))) tyX2_ok (by decide +kernel) df2 (Nat.le_of_ble_eq_true rfl) (Nat.le_of_ble_eq_true rfl) (fun q13 => ?_)
  dsimp only [List.set_cons_zero, List.set_cons_succ, List.cons_append, List.nil_append]
  refine u_dup dX8_init_74 rfl ?_
  refine up_callN (k := 13) dX8_init_75 ciX8_init_X2_init (by decide +kernel) rfl (fun ws i hi => i_X2 hi) (Nat.le_of_ble_eq_true rfl) ⟨⟨Nat.le_of_ble_eq_true rfl, Nat.le_of_ble_eq_true rfl⟩, Nat.le_of_ble_eq_true rfl, Nat.le_of_ble_eq_true rfl⟩ (fun q14 => ?_)
  dsimp only [List.set_cons_zero, List.set_cons_succ, List.cons_append, List.nil_append]
  refine up_putF hi dX8_init_78 pX8_init_50 rfl rfl rfl (Nat.le_of_ble_eq_true rfl) ?_
  dsimp only [List.set_cons_zero, List.set_cons_succ, List.cons_append, List.nil_append]
  refine u_aload_n dX8_init_81 rfl rfl ?_
  refine u_iconst (v := 2) dX8_init_82 rfl ?_
  refine up_newq (N := 2) dX8_init_83 (by decide +kernel) (by decide) (by decide) (by decide) (Nat.le_of_ble_eq_true rfl) (Nat.le_of_ble_eq_true rfl) (fun q15 => ?_)
  dsimp only [List.set_cons_zero, List.set_cons_succ, List.cons_append, List.nil_append]
  refine u_dup dX8_init_86 rfl ?_
  refine u_iconst (v := 0) dX8_init_87 rfl ?_
  refine up_new (ci := 1) (fs := [.null, .int 0, .int 0, .int 0]) (ty := tyX1) dX8_init_88 rfl (fun w h => List.mem_cons_of_mem _ (List.mem_append_left _ (List.mem_append_right _ h))) tyX1_ok (by decide +kernel) df1 (Nat.le_of_ble_eq_true rfl) (Nat.le_of_ble_eq_true rfl) (fun q16 => ?_)
  dsimp only [List.set_cons_zero, List.set_cons_succ, List.cons_append, List.nil_append]
  refine u_dup dX8_init_91 rfl ?_
  refine up_callN (k := 16) dX8_init_92 ciX8_init_X1_init (by decide +kernel) rfl (fun ws i hi => i_X1 hi) (Nat.le_of_ble_eq_true rfl) ⟨⟨Nat.le_of_ble_eq_true rfl, Nat.le_of_ble_eq_true rfl⟩, Nat.le_of_ble_eq_true rfl, Nat.le_of_ble_eq_true rfl⟩ (fun q17 => ?_)
  dsimp only [List.set_cons_zero, List.set_cons_succ, List.cons_append, List.nil_append]
  refine up_aast (k := 15) (j := 16) dX8_init_95 rfl rfl rfl (in_nI (k := 0) (by omega) (by omega)) ?_
  dsimp only [List.set_cons_zero, List.set_cons_succ, List.cons_append, List.nil_append]
  refine u_dup dX8_init_96 rfl ?_
  refine u_iconst (v := 1) dX8_init_97 rfl ?_
  refine up_new (ci := 1) (fs := [.null, .int 0, .int 0, .int 0]) (ty := tyX1) dX8_init_98 rfl (fun w h => List.mem_cons_of_mem _ (List.mem_append_left _ (List.mem_append_right _ h))) tyX1_ok (by decide +kernel) df1 (Nat.le_of_ble_eq_true rfl) (Nat.le_of_ble_eq_true rfl) (fun q18 => ?_)
  dsimp only [List.set_cons_zero, List.set_cons_succ, List.cons_append, List.nil_append]
  refine u_dup dX8_init_101 rfl ?_
  refine up_callN (k := 19) dX8_init_102 ciX8_init_X1_init (by decide +kernel) rfl (fun ws i hi => i_X1 hi) (Nat.le_of_ble_eq_true rfl) ⟨⟨Nat.le_of_ble_eq_true rfl, Nat.le_of_ble_eq_true rfl⟩, Nat.le_of_ble_eq_true rfl, Nat.le_of_ble_eq_true rfl⟩ (fun q19 => ?_)
  dsimp only [List.set_cons_zero, List.set_cons_succ, List.cons_append, List.nil_append]
  refine up_aast (k := 15) (j := 19) dX8_init_105 rfl rfl rfl (in_nI (k := 1) (by omega) (by omega)) ?_
  dsimp only [List.set_cons_zero, List.set_cons_succ, List.cons_append, List.nil_append]
  refine up_putF hi dX8_init_106 pX8_init_57 rfl rfl rfl (Nat.le_of_ble_eq_true rfl) ?_
  dsimp only [List.set_cons_zero, List.set_cons_succ, List.cons_append, List.nil_append]
  refine u_aload_n dX8_init_109 rfl rfl ?_
  refine up_new (ci := 6) (fs := [.null, .null, .null, .null, .int 0]) (ty := tyX6) dX8_init_110 rfl (fun w h => List.mem_cons_of_mem _ (List.mem_append_right _ h)) tyX6_ok (by decide +kernel) df6 (Nat.le_of_ble_eq_true rfl) (Nat.le_of_ble_eq_true rfl) (fun q20 => ?_)
  dsimp only [List.set_cons_zero, List.set_cons_succ, List.cons_append, List.nil_append]
  refine u_dup dX8_init_113 rfl ?_
  refine up_callN (k := 22) dX8_init_114 ciX8_init_X6_init (by decide +kernel) rfl (fun ws i hi => i_X6 hi) (Nat.le_of_ble_eq_true rfl) ⟨⟨Nat.le_of_ble_eq_true rfl, Nat.le_of_ble_eq_true rfl⟩, Nat.le_of_ble_eq_true rfl, Nat.le_of_ble_eq_true rfl⟩ (fun q21 => ?_)
  dsimp only [List.set_cons_zero, List.set_cons_succ, List.cons_append, List.nil_append]
  refine up_put hi dX8_init_117 pX8_init_64 rfl rfl (Nat.le_of_ble_eq_true rfl) ?_
  dsimp only [List.set_cons_zero, List.set_cons_succ, List.cons_append, List.nil_append]
  refine u_aload_n dX8_init_120 rfl rfl ?_
  refine up_new (ci := 6) (fs := [.null, .null, .null, .null, .int 0]) (ty := tyX6) dX8_init_121 rfl (fun w h => List.mem_cons_of_mem _ (List.mem_append_right _ h)) tyX6_ok (by decide +kernel) df6 (Nat.le_of_ble_eq_true rfl) (Nat.le_of_ble_eq_true rfl) (fun q22 => ?_)
  dsimp only [List.set_cons_zero, List.set_cons_succ, List.cons_append, List.nil_append]
  refine u_dup dX8_init_124 rfl ?_
  refine up_callN (k := 27) dX8_init_125 ciX8_init_X6_init (by decide +kernel) rfl (fun ws i hi => i_X6 hi) (Nat.le_of_ble_eq_true rfl) ⟨⟨Nat.le_of_ble_eq_true rfl, Nat.le_of_ble_eq_true rfl⟩, Nat.le_of_ble_eq_true rfl, Nat.le_of_ble_eq_true rfl⟩ (fun q23 => ?_)
  dsimp only [List.set_cons_zero, List.set_cons_succ, List.cons_append, List.nil_append]
  refine up_put hi dX8_init_128 pX8_init_68 rfl rfl (Nat.le_of_ble_eq_true rfl) ?_
  dsimp only [List.set_cons_zero, List.set_cons_succ, List.cons_append, List.nil_append]
  refine u_aload_n dX8_init_131 rfl rfl ?_
  refine u_iconst (v := 1) dX8_init_132 rfl ?_
  refine up_put hi dX8_init_133 pX8_init_71 rfl rfl (Nat.le_of_ble_eq_true rfl) ?_
  dsimp only [List.set_cons_zero, List.set_cons_succ, List.cons_append, List.nil_append]
  refine u_aload_n dX8_init_136 rfl rfl ?_
  refine u_iconst (v := 0) dX8_init_137 rfl ?_
  refine up_put hi dX8_init_138 pX8_init_75 rfl rfl (Nat.le_of_ble_eq_true rfl) ?_
  dsimp only [List.set_cons_zero, List.set_cons_succ, List.cons_append, List.nil_append]
  refine u_aload_n dX8_init_141 rfl rfl ?_
  refine u_lconst (v := 0) dX8_init_142 rfl ?_
  refine up_put hi dX8_init_143 pX8_init_78 rfl rfl (Nat.le_of_ble_eq_true rfl) ?_
  dsimp only [List.set_cons_zero, List.set_cons_succ, List.cons_append, List.nil_append]
  exact u_vret dX8_init_146 rfl (Nat.le_of_ble_eq_true rfl) (Nat.le_of_ble_eq_true rfl) (⟨rfl, fun j => ([q1, q2 0, q3, q4 0, q5, q6 0, q7, q8 0, q9, q11, q12 0, q12 1, q12 2, q13, q14 0, q15, q16, q17 0, q17 1, q18, q19 0, q19 1, q20, q21 0, q21 1, q21 2, q21 3, q22, q23 0, q23 1, q23 2, q23 3] : List Nat).getD j 0, rfl⟩)
def mt0 : Nat → Int32 := upd (upd (upd (upd (fun _ => 0) 0 (-9)) 1 (-9)) 2 (-9)) 3 (-9)
set_option maxRecDepth 100000 in
set_option maxHeartbeats 4000000 in
theorem i_X9 (hi : ws[i]? = some (a, ob 9 [.long 0, .null, .int 0, .int 0, .null, .null, .null, .null, .int 0, .int 0, .int 0, .int 0, .int 0, .null, .null, .null, .null, .null, .null, .int 0, .null, .null, .null, .null, .int 0])) : ConU Γ l mX9_init rX9_init [.ref a] ws (mkQ ws i a (fun q => ob 9 [.long 0, .ref (q 0), .int 0, .int 0, .ref (q 1), .ref (q 2), .ref (q 3), .ref (q 4), .int 0, .int 0, .int 0, .int 0, .int 0, .ref (q 5), .ref (q 6), .ref (q 7), .ref (q 8), .ref (q 9), .ref (q 10), .int 0, .ref (q 11), .ref (q 12), .ref (q 13), .ref (q 14), .int 0]) (fun q => [(q 0, aB Γ 300 (fun _ => 0)), (q 1, aI Γ 16 (fun _ => 0)), (q 2, aI Γ 16 (fun _ => 0)), (q 3, aI Γ 16 (fun _ => 0)), (q 4, aI Γ 16 (fun _ => 0)), (q 5, aI Γ 240 (fun _ => 0)), (q 6, aI Γ 3 (upd (fun _ => 0) 0 1)), (q 7, aI Γ 3 (fun _ => 0)), (q 8, aZ Γ 2 (fun _ => 0)), (q 9, aI Γ 6 tu0), (q 10, aI Γ 4 mt0), (q 11, aJ Γ 10 (fun _ => 0)), (q 12, aZ Γ 10 (fun _ => 0)), (q 13, aI Γ 80 (fun _ => 0)), (q 14, aI Γ 27 (fun _ => 0))])) := by
  refine ConU.of (by decide +kernel) rfl rfl (Nat.le_of_ble_eq_true rfl) ?_
  refine U.w (ws' := pw ws i (a, ob 9 [.long 0, .null, .int 0, .int 0, .null, .null, .null, .null, .int 0, .int 0, .int 0, .int 0, .int 0, .null, .null, .null, .null, .null, .null, .int 0, .null, .null, .null, .null, .int 0]) []) ?_ (pw_0 hi)
  refine u_aload_n dX9_init_0 rfl rfl ?_
  refine u_obj dX9_init_1 (by decide +kernel) (Nat.le_of_ble_eq_true rfl) (Nat.le_of_ble_eq_true rfl) ?_
  refine u_aload_n dX9_init_4 rfl rfl ?_
  refine u_sipush (v := 300) dX9_init_5 rfl ?_
  refine up_newa (N := 300) (t0 := 0) (a0 := (300, .inl (fun _ => 0))) dX9_init_8 (by decide +kernel) rfl rfl (fun _ => rfl) (by decide) (by decide) (by decide) (Nat.le_of_ble_eq_true rfl) (Nat.le_of_ble_eq_true rfl) (fun q1 => ?_)
  dsimp only [List.set_cons_zero, List.set_cons_succ, List.cons_append, List.nil_append]
  refine up_putF hi dX9_init_10 pX9_init_7 rfl rfl rfl (Nat.le_of_ble_eq_true rfl) ?_
  dsimp only [List.set_cons_zero, List.set_cons_succ, List.cons_append, List.nil_append]
  refine u_aload_n dX9_init_13 rfl rfl ?_
  refine u_bipush (v := 16) dX9_init_14 rfl ?_
  refine up_newa (N := 16) (t0 := 1) (a0 := (16, .inl (fun _ => 0))) dX9_init_16 (by decide +kernel) rfl rfl (fun _ => rfl) (by decide) (by decide) (by decide) (Nat.le_of_ble_eq_true rfl) (Nat.le_of_ble_eq_true rfl) (fun q2 => ?_)
  dsimp only [List.set_cons_zero, List.set_cons_succ, List.cons_append, List.nil_append]
  refine up_putF hi dX9_init_18 pX9_init_13 rfl rfl rfl (Nat.le_of_ble_eq_true rfl) ?_
  dsimp only [List.set_cons_zero, List.set_cons_succ, List.cons_append, List.nil_append]
  refine u_aload_n dX9_init_21 rfl rfl ?_
  refine u_bipush (v := 16) dX9_init_22 rfl ?_
  refine up_newa (N := 16) (t0 := 1) (a0 := (16, .inl (fun _ => 0))) dX9_init_24 (by decide +kernel) rfl rfl (fun _ => rfl) (by decide) (by decide) (by decide) (Nat.le_of_ble_eq_true rfl) (Nat.le_of_ble_eq_true rfl) (fun q3 => ?_)
  dsimp only [List.set_cons_zero, List.set_cons_succ, List.cons_append, List.nil_append]
  refine up_putF hi dX9_init_26 pX9_init_17 rfl rfl rfl (Nat.le_of_ble_eq_true rfl) ?_
  dsimp only [List.set_cons_zero, List.set_cons_succ, List.cons_append, List.nil_append]
  refine u_aload_n dX9_init_29 rfl rfl ?_
  refine u_bipush (v := 16) dX9_init_30 rfl ?_
  refine up_newa (N := 16) (t0 := 1) (a0 := (16, .inl (fun _ => 0))) dX9_init_32 (by decide +kernel) rfl rfl (fun _ => rfl) (by decide) (by decide) (by decide) (Nat.le_of_ble_eq_true rfl) (Nat.le_of_ble_eq_true rfl) (fun q4 => ?_)
  dsimp only [List.set_cons_zero, List.set_cons_succ, List.cons_append, List.nil_append]
  refine up_putF hi dX9_init_34 pX9_init_20 rfl rfl rfl (Nat.le_of_ble_eq_true rfl) ?_
  dsimp only [List.set_cons_zero, List.set_cons_succ, List.cons_append, List.nil_append]
  refine u_aload_n dX9_init_37 rfl rfl ?_
  refine u_bipush (v := 16) dX9_init_38 rfl ?_
  refine up_newa (N := 16) (t0 := 1) (a0 := (16, .inl (fun _ => 0))) dX9_init_40 (by decide +kernel) rfl rfl (fun _ => rfl) (by decide) (by decide) (by decide) (Nat.le_of_ble_eq_true rfl) (Nat.le_of_ble_eq_true rfl) (fun q5 => ?_)
  dsimp only [List.set_cons_zero, List.set_cons_succ, List.cons_append, List.nil_append]
  refine up_putF hi dX9_init_42 pX9_init_23 rfl rfl rfl (Nat.le_of_ble_eq_true rfl) ?_
  dsimp only [List.set_cons_zero, List.set_cons_succ, List.cons_append, List.nil_append]
  refine u_aload_n dX9_init_45 rfl rfl ?_
  refine u_sipush (v := 240) dX9_init_46 rfl ?_
  refine up_newa (N := 240) (t0 := 1) (a0 := (240, .inl (fun _ => 0))) dX9_init_49 (by decide +kernel) rfl rfl (fun _ => rfl) (by decide) (by decide) (by decide) (Nat.le_of_ble_eq_true rfl) (Nat.le_of_ble_eq_true rfl) (fun q6 => ?_)
  dsimp only [List.set_cons_zero, List.set_cons_succ, List.cons_append, List.nil_append]
  refine up_putF hi dX9_init_51 pX9_init_26 rfl rfl rfl (Nat.le_of_ble_eq_true rfl) ?_
  dsimp only [List.set_cons_zero, List.set_cons_succ, List.cons_append, List.nil_append]
  refine u_aload_n dX9_init_54 rfl rfl ?_
  refine u_iconst (v := 3) dX9_init_55 rfl ?_
  refine up_newa (N := 3) (t0 := 1) (a0 := (3, .inl (fun _ => 0))) dX9_init_56 (by decide +kernel) rfl rfl (fun _ => rfl) (by decide) (by decide) (by decide) (Nat.le_of_ble_eq_true rfl) (Nat.le_of_ble_eq_true rfl) (fun q7 => ?_)
  dsimp only [List.set_cons_zero, List.set_cons_succ, List.cons_append, List.nil_append]
  refine up_putF hi dX9_init_58 pX9_init_29 rfl rfl rfl (Nat.le_of_ble_eq_true rfl) ?_
  dsimp only [List.set_cons_zero, List.set_cons_succ, List.cons_append, List.nil_append]
  refine u_aload_n dX9_init_61 rfl rfl ?_
  refine u_iconst (v := 3) dX9_init_62 rfl ?_
  refine up_newa (N := 3) (t0 := 1) (a0 := (3, .inl (fun _ => 0))) dX9_init_63 (by decide +kernel) rfl rfl (fun _ => rfl) (by decide) (by decide) (by decide) (Nat.le_of_ble_eq_true rfl) (Nat.le_of_ble_eq_true rfl) (fun q8 => ?_)
  dsimp only [List.set_cons_zero, List.set_cons_succ, List.cons_append, List.nil_append]
  refine up_putF hi dX9_init_65 pX9_init_32 rfl rfl rfl (Nat.le_of_ble_eq_true rfl) ?_
  dsimp only [List.set_cons_zero, List.set_cons_succ, List.cons_append, List.nil_append]
  refine u_aload_n dX9_init_68 rfl rfl ?_
  refine u_iconst (v := 2) dX9_init_69 rfl ?_
  refine up_newa (N := 2) (t0 := 3) (a0 := (2, .inl (fun _ => 0))) dX9_init_70 (by decide +kernel) rfl rfl (fun _ => rfl) (by decide) (by decide) (by decide) (Nat.le_of_ble_eq_true rfl) (Nat.le_of_ble_eq_true rfl) (fun q9 => ?_)
  dsimp only [List.set_cons_zero, List.set_cons_succ, List.cons_append, List.nil_append]
  refine up_putF hi dX9_init_72 pX9_init_35 rfl rfl rfl (Nat.le_of_ble_eq_true rfl) ?_
  dsimp only [List.set_cons_zero, List.set_cons_succ, List.cons_append, List.nil_append]
  refine u_aload_n dX9_init_75 rfl rfl ?_
  refine u_bipush (v := 6) dX9_init_76 rfl ?_
  refine up_newa (N := 6) (t0 := 1) (a0 := (6, .inl (fun _ => 0))) dX9_init_78 (by decide +kernel) rfl rfl (fun _ => rfl) (by decide) (by decide) (by decide) (Nat.le_of_ble_eq_true rfl) (Nat.le_of_ble_eq_true rfl) (fun q10 => ?_)
  dsimp only [List.set_cons_zero, List.set_cons_succ, List.cons_append, List.nil_append]
  refine up_putF hi dX9_init_80 pX9_init_39 rfl rfl rfl (Nat.le_of_ble_eq_true rfl) ?_
  dsimp only [List.set_cons_zero, List.set_cons_succ, List.cons_append, List.nil_append]
  refine u_aload_n dX9_init_83 rfl rfl ?_
  refine u_iconst (v := 4) dX9_init_84 rfl ?_
  refine up_newa (N := 4) (t0 := 1) (a0 := (4, .inl (fun _ => 0))) dX9_init_85 (by decide +kernel) rfl rfl (fun _ => rfl) (by decide) (by decide) (by decide) (Nat.le_of_ble_eq_true rfl) (Nat.le_of_ble_eq_true rfl) (fun q11 => ?_)
  dsimp only [List.set_cons_zero, List.set_cons_succ, List.cons_append, List.nil_append]
  refine up_putF hi dX9_init_87 pX9_init_42 rfl rfl rfl (Nat.le_of_ble_eq_true rfl) ?_
  dsimp only [List.set_cons_zero, List.set_cons_succ, List.cons_append, List.nil_append]
  refine u_aload_n dX9_init_90 rfl rfl ?_
  refine u_bipush (v := 10) dX9_init_91 rfl ?_
  refine up_newa (N := 10) (t0 := 2) (a0 := (10, .inr (.inl (fun _ => 0)))) dX9_init_93 (by decide +kernel) rfl rfl (fun _ => rfl) (by decide) (by decide) (by decide) (Nat.le_of_ble_eq_true rfl) (Nat.le_of_ble_eq_true rfl) (fun q12 => ?_)
  dsimp only [List.set_cons_zero, List.set_cons_succ, List.cons_append, List.nil_append]
  refine up_putF hi dX9_init_95 pX9_init_45 rfl rfl rfl (Nat.le_of_ble_eq_true rfl) ?_
  dsimp only [List.set_cons_zero, List.set_cons_succ, List.cons_append, List.nil_append]
  refine u_aload_n dX9_init_98 rfl rfl ?_
  refine u_bipush (v := 10) dX9_init_99 rfl ?_
  refine up_newa (N := 10) (t0 := 3) (a0 := (10, .inl (fun _ => 0))) dX9_init_101 (by decide +kernel) rfl rfl (fun _ => rfl) (by decide) (by decide) (by decide) (Nat.le_of_ble_eq_true rfl) (Nat.le_of_ble_eq_true rfl) (fun q13 => ?_)
  dsimp only [List.set_cons_zero, List.set_cons_succ, List.cons_append, List.nil_append]
  refine up_putF hi dX9_init_103 pX9_init_49 rfl rfl rfl (Nat.le_of_ble_eq_true rfl) ?_
  dsimp only [List.set_cons_zero, List.set_cons_succ, List.cons_append, List.nil_append]
  refine u_aload_n dX9_init_106 rfl rfl ?_
  refine u_bipush (v := 80) dX9_init_107 rfl ?_
  refine up_newa (N := 80) (t0 := 1) (a0 := (80, .inl (fun _ => 0))) dX9_init_109 (by decide +kernel) rfl rfl (fun _ => rfl) (by decide) (by decide) (by decide) (Nat.le_of_ble_eq_true rfl) (Nat.le_of_ble_eq_true rfl) (fun q14 => ?_)
  dsimp only [List.set_cons_zero, List.set_cons_succ, List.cons_append, List.nil_append]
  refine up_putF hi dX9_init_111 pX9_init_52 rfl rfl rfl (Nat.le_of_ble_eq_true rfl) ?_
  dsimp only [List.set_cons_zero, List.set_cons_succ, List.cons_append, List.nil_append]
  refine u_aload_n dX9_init_114 rfl rfl ?_
  refine u_bipush (v := 27) dX9_init_115 rfl ?_
  refine up_newa (N := 27) (t0 := 1) (a0 := (27, .inl (fun _ => 0))) dX9_init_117 (by decide +kernel) rfl rfl (fun _ => rfl) (by decide) (by decide) (by decide) (Nat.le_of_ble_eq_true rfl) (Nat.le_of_ble_eq_true rfl) (fun q15 => ?_)
  dsimp only [List.set_cons_zero, List.set_cons_succ, List.cons_append, List.nil_append]
  refine up_putF hi dX9_init_119 pX9_init_55 rfl rfl rfl (Nat.le_of_ble_eq_true rfl) ?_
  dsimp only [List.set_cons_zero, List.set_cons_succ, List.cons_append, List.nil_append]
  refine u_aload_n dX9_init_122 rfl rfl ?_
  refine up_get hi dX9_init_123 fX9_init_39 rfl ?_
  refine u_iconst (v := 0) dX9_init_126 rfl ?_
  refine u_iconst (v := 2) dX9_init_127 rfl ?_
  refine up_iast (k := 9) dX9_init_128 rfl (in_nI (k := 0) (by omega) (by omega)) ?_
  dsimp only [List.set_cons_zero, List.set_cons_succ, List.cons_append, List.nil_append]
  refine u_aload_n dX9_init_129 rfl rfl ?_
  refine up_get hi dX9_init_130 fX9_init_39 rfl ?_
  refine u_iconst (v := 1) dX9_init_133 rfl ?_
  refine u_iconst (v := 5) dX9_init_134 rfl ?_
  refine up_iast (k := 9) dX9_init_135 rfl (in_nI (k := 1) (by omega) (by omega)) ?_
  dsimp only [List.set_cons_zero, List.set_cons_succ, List.cons_append, List.nil_append]
  refine u_aload_n dX9_init_136 rfl rfl ?_
  refine up_get hi dX9_init_137 fX9_init_39 rfl ?_
  refine u_iconst (v := 2) dX9_init_140 rfl ?_
  refine u_bipush (v := 20) dX9_init_141 rfl ?_
  refine up_iast (k := 9) dX9_init_143 rfl (in_nI (k := 2) (by omega) (by omega)) ?_
  dsimp only [List.set_cons_zero, List.set_cons_succ, List.cons_append, List.nil_append]
  refine u_aload_n dX9_init_144 rfl rfl ?_
  refine up_get hi dX9_init_145 fX9_init_39 rfl ?_
  refine u_iconst (v := 3) dX9_init_148 rfl ?_
  refine u_iconst (v := 1) dX9_init_149 rfl ?_
  refine up_iast (k := 9) dX9_init_150 rfl (in_nI (k := 3) (by omega) (by omega)) ?_
  dsimp only [List.set_cons_zero, List.set_cons_succ, List.cons_append, List.nil_append]
  refine u_aload_n dX9_init_151 rfl rfl ?_
  refine up_get hi dX9_init_152 fX9_init_39 rfl ?_
  refine u_iconst (v := 4) dX9_init_155 rfl ?_
  refine u_iconst (v := 1) dX9_init_156 rfl ?_
  refine up_iast (k := 9) dX9_init_157 rfl (in_nI (k := 4) (by omega) (by omega)) ?_
  dsimp only [List.set_cons_zero, List.set_cons_succ, List.cons_append, List.nil_append]
  refine u_aload_n dX9_init_158 rfl rfl ?_
  refine up_get hi dX9_init_159 fX9_init_39 rfl ?_
  refine u_iconst (v := 5) dX9_init_162 rfl ?_
  refine u_bipush (v := 20) dX9_init_163 rfl ?_
  refine up_iast (k := 9) dX9_init_165 rfl (in_nI (k := 5) (by omega) (by omega)) ?_
  dsimp only [List.set_cons_zero, List.set_cons_succ, List.cons_append, List.nil_append]
  refine u_aload_n dX9_init_166 rfl rfl ?_
  refine up_get hi dX9_init_167 fX9_init_29 rfl ?_
  refine u_iconst (v := 0) dX9_init_170 rfl ?_
  refine u_iconst (v := 1) dX9_init_171 rfl ?_
  refine up_iast (k := 6) dX9_init_172 rfl (in_nI (k := 0) (by omega) (by omega)) ?_
  dsimp only [List.set_cons_zero, List.set_cons_succ, List.cons_append, List.nil_append]
  refine u_iconst (v := 0) dX9_init_173 rfl ?_
  refine u_istore_n dX9_init_174 rfl (by decide) ?_
  skip
  refine u_iload_n dX9_init_175 rfl rfl ?_
  refine u_iconst (v := 4) dX9_init_176 rfl ?_
  refine u_icmp_ge 194 dX9_init_177 (by decide) (fun z => absurd z (by decide)) (fun _ => ?_)
  refine u_aload_n dX9_init_180 rfl rfl ?_
  refine up_get hi dX9_init_181 fX9_init_42 rfl ?_
  refine u_iload_n dX9_init_184 rfl rfl ?_
  refine u_bipush (v := (-9)) dX9_init_185 rfl ?_
  refine up_iast (k := 10) dX9_init_187 rfl (in_nI (k := 0) (by omega) (by omega)) ?_
  dsimp only [List.set_cons_zero, List.set_cons_succ, List.cons_append, List.nil_append]
  refine u_iinc1 dX9_init_188 rfl (by decide) ?_
  refine u_goto 175 dX9_init_191 (by decide) ?_
  skip
  refine u_iload_n dX9_init_175 rfl rfl ?_
  refine u_iconst (v := 4) dX9_init_176 rfl ?_
  refine u_icmp_ge 194 dX9_init_177 (by decide) (fun z => absurd z (by decide)) (fun _ => ?_)
  refine u_aload_n dX9_init_180 rfl rfl ?_
  refine up_get hi dX9_init_181 fX9_init_42 rfl ?_
  refine u_iload_n dX9_init_184 rfl rfl ?_
  refine u_bipush (v := (-9)) dX9_init_185 rfl ?_
  refine up_iast (k := 10) dX9_init_187 rfl (in_nI (k := 1) (by omega) (by omega)) ?_
  dsimp only [List.set_cons_zero, List.set_cons_succ, List.cons_append, List.nil_append]
  refine u_iinc1 dX9_init_188 rfl (by decide) ?_
  refine u_goto 175 dX9_init_191 (by decide) ?_
  skip
  refine u_iload_n dX9_init_175 rfl rfl ?_
  refine u_iconst (v := 4) dX9_init_176 rfl ?_
  refine u_icmp_ge 194 dX9_init_177 (by decide) (fun z => absurd z (by decide)) (fun _ => ?_)
  refine u_aload_n dX9_init_180 rfl rfl ?_
  refine up_get hi dX9_init_181 fX9_init_42 rfl ?_
  refine u_iload_n dX9_init_184 rfl rfl ?_
  refine u_bipush (v := (-9)) dX9_init_185 rfl ?_
  refine up_iast (k := 10) dX9_init_187 rfl (in_nI (k := 2) (by omega) (by omega)) ?_
  dsimp only [List.set_cons_zero, List.set_cons_succ, List.cons_append, List.nil_append]
  refine u_iinc1 dX9_init_188 rfl (by decide) ?_
  refine u_goto 175 dX9_init_191 (by decide) ?_
  skip
  refine u_iload_n dX9_init_175 rfl rfl ?_
  refine u_iconst (v := 4) dX9_init_176 rfl ?_
  refine u_icmp_ge 194 dX9_init_177 (by decide) (fun z => absurd z (by decide)) (fun _ => ?_)
  refine u_aload_n dX9_init_180 rfl rfl ?_
  refine up_get hi dX9_init_181 fX9_init_42 rfl ?_
  refine u_iload_n dX9_init_184 rfl rfl ?_
  refine u_bipush (v := (-9)) dX9_init_185 rfl ?_
  refine up_iast (k := 10) dX9_init_187 rfl (in_nI (k := 3) (by omega) (by omega)) ?_
  dsimp only [List.set_cons_zero, List.set_cons_succ, List.cons_append, List.nil_append]
  refine u_iinc1 dX9_init_188 rfl (by decide) ?_
  refine u_goto 175 dX9_init_191 (by decide) ?_
  skip
  refine u_iload_n dX9_init_175 rfl rfl ?_
  refine u_iconst (v := 4) dX9_init_176 rfl ?_
  refine u_icmp_ge 194 dX9_init_177 (by decide) (fun _ => ?_) (fun z => absurd (by decide) z)
  exact u_vret dX9_init_194 rfl (Nat.le_of_ble_eq_true rfl) (Nat.le_of_ble_eq_true rfl) (⟨rfl, fun j => ([q1, q2, q3, q4, q5, q6, q7, q8, q9, q10, q11, q12, q13, q14, q15] : List Nat).getD j 0, rfl⟩)
end

