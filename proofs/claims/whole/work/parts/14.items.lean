/-! TEXT (X5): items and the town -/
abbrev mX5_readItem : mT := (yX5_readItem, RX5, cX5_readItem, 3, (some .boolean), wsX5_readItem)
abbrev rX5_readItem : Room := { frames := 9, cells := 0, slots := 0, locals := 208 }
theorem dX5_readItem_0 : decode cX5_readItem 0 = .ok (.aload_n 0, 1) := by decide +kernel
theorem dX5_readItem_1 : decode cX5_readItem 1 = .ok (.getfield 34, 3) := by decide +kernel
theorem dX5_readItem_4 : decode cX5_readItem 4 = .ok (.iconst 4, 1) := by decide +kernel
theorem dX5_readItem_5 : decode cX5_readItem 5 = .ok (.if_icmp .eq 22, 3) := by decide +kernel
theorem dX5_readItem_8 : decode cX5_readItem 8 = .ok (.aload_n 0, 1) := by decide +kernel
theorem dX5_readItem_9 : decode cX5_readItem 9 = .ok (.getfield 34, 3) := by decide +kernel
theorem dX5_readItem_12 : decode cX5_readItem 12 = .ok (.iconst 5, 1) := by decide +kernel
theorem dX5_readItem_13 : decode cX5_readItem 13 = .ok (.if_icmp .eq 14, 3) := by decide +kernel
theorem dX5_readItem_16 : decode cX5_readItem 16 = .ok (.aload_n 0, 1) := by decide +kernel
theorem dX5_readItem_17 : decode cX5_readItem 17 = .ok (.getfield 34, 3) := by decide +kernel
theorem dX5_readItem_20 : decode cX5_readItem 20 = .ok (.bipush 6, 2) := by decide +kernel
theorem dX5_readItem_22 : decode cX5_readItem 22 = .ok (.if_icmp .eq 5, 3) := by decide +kernel
theorem dX5_readItem_25 : decode cX5_readItem 25 = .ok (.iconst 0, 1) := by decide +kernel
theorem dX5_readItem_26 : decode cX5_readItem 26 = .ok (.ireturn, 1) := by decide +kernel
theorem dX5_readItem_27 : decode cX5_readItem 27 = .ok (.aload_n 1, 1) := by decide +kernel
theorem dX5_readItem_28 : decode cX5_readItem 28 = .ok (.getfield 44, 3) := by decide +kernel
theorem dX5_readItem_31 : decode cX5_readItem 31 = .ok (.iload_n 2, 1) := by decide +kernel
theorem dX5_readItem_32 : decode cX5_readItem 32 = .ok (.aload_n 0, 1) := by decide +kernel
theorem dX5_readItem_33 : decode cX5_readItem 33 = .ok (.getfield 34, 3) := by decide +kernel
theorem dX5_readItem_36 : decode cX5_readItem 36 = .ok (.iconst 4, 1) := by decide +kernel
theorem dX5_readItem_37 : decode cX5_readItem 37 = .ok (.isub, 1) := by decide +kernel
theorem dX5_readItem_38 : decode cX5_readItem 38 = .ok (.iastore, 1) := by decide +kernel
theorem dX5_readItem_39 : decode cX5_readItem 39 = .ok (.aload_n 1, 1) := by decide +kernel
theorem dX5_readItem_40 : decode cX5_readItem 40 = .ok (.getfield 47, 3) := by decide +kernel
theorem dX5_readItem_43 : decode cX5_readItem 43 = .ok (.iload_n 2, 1) := by decide +kernel
theorem dX5_readItem_44 : decode cX5_readItem 44 = .ok (.iconst 0, 1) := by decide +kernel
theorem dX5_readItem_45 : decode cX5_readItem 45 = .ok (.iastore, 1) := by decide +kernel
theorem dX5_readItem_46 : decode cX5_readItem 46 = .ok (.aload_n 0, 1) := by decide +kernel
theorem dX5_readItem_47 : decode cX5_readItem 47 = .ok (.invokevirtual 31, 3) := by decide +kernel
theorem dX5_readItem_50 : decode cX5_readItem 50 = .ok (.aload_n 1, 1) := by decide +kernel
theorem dX5_readItem_51 : decode cX5_readItem 51 = .ok (.getfield 44, 3) := by decide +kernel
theorem dX5_readItem_54 : decode cX5_readItem 54 = .ok (.iload_n 2, 1) := by decide +kernel
theorem dX5_readItem_55 : decode cX5_readItem 55 = .ok (.iaload, 1) := by decide +kernel
theorem dX5_readItem_56 : decode cX5_readItem 56 = .ok (.iconst 2, 1) := by decide +kernel
theorem dX5_readItem_57 : decode cX5_readItem 57 = .ok (.if_icmp .ne 36, 3) := by decide +kernel
theorem dX5_readItem_60 : decode cX5_readItem 60 = .ok (.aload_n 0, 1) := by decide +kernel
theorem dX5_readItem_61 : decode cX5_readItem 61 = .ok (.getfield 34, 3) := by decide +kernel
theorem dX5_readItem_64 : decode cX5_readItem 64 = .ok (.iconst 2, 1) := by decide +kernel
theorem dX5_readItem_65 : decode cX5_readItem 65 = .ok (.if_icmp .ne 12, 3) := by decide +kernel
theorem dX5_readItem_68 : decode cX5_readItem 68 = .ok (.aload_n 0, 1) := by decide +kernel
theorem dX5_readItem_69 : decode cX5_readItem 69 = .ok (.getfield 50, 3) := by decide +kernel
theorem dX5_readItem_72 : decode cX5_readItem 72 = .ok (.bipush 10, 2) := by decide +kernel
theorem dX5_readItem_74 : decode cX5_readItem 74 = .ok (.if_icmp .le 5, 3) := by decide +kernel
theorem dX5_readItem_77 : decode cX5_readItem 77 = .ok (.iconst 0, 1) := by decide +kernel
theorem dX5_readItem_78 : decode cX5_readItem 78 = .ok (.ireturn, 1) := by decide +kernel
theorem dX5_readItem_79 : decode cX5_readItem 79 = .ok (.aload_n 1, 1) := by decide +kernel
theorem dX5_readItem_80 : decode cX5_readItem 80 = .ok (.getfield 47, 3) := by decide +kernel
theorem dX5_readItem_83 : decode cX5_readItem 83 = .ok (.iload_n 2, 1) := by decide +kernel
theorem dX5_readItem_84 : decode cX5_readItem 84 = .ok (.aload_n 0, 1) := by decide +kernel
theorem dX5_readItem_85 : decode cX5_readItem 85 = .ok (.getfield 50, 3) := by decide +kernel
theorem dX5_readItem_88 : decode cX5_readItem 88 = .ok (.iastore, 1) := by decide +kernel
theorem dX5_readItem_89 : decode cX5_readItem 89 = .ok (.aload_n 0, 1) := by decide +kernel
theorem dX5_readItem_90 : decode cX5_readItem 90 = .ok (.invokevirtual 31, 3) := by decide +kernel
theorem dX5_readItem_93 : decode cX5_readItem 93 = .ok (.aload_n 0, 1) := by decide +kernel
theorem dX5_readItem_94 : decode cX5_readItem 94 = .ok (.getfield 34, 3) := by decide +kernel
theorem dX5_readItem_97 : decode cX5_readItem 97 = .ok (.bipush 7, 2) := by decide +kernel
theorem dX5_readItem_99 : decode cX5_readItem 99 = .ok (.if_icmp .eq 14, 3) := by decide +kernel
theorem dX5_readItem_102 : decode cX5_readItem 102 = .ok (.aload_n 0, 1) := by decide +kernel
theorem dX5_readItem_103 : decode cX5_readItem 103 = .ok (.getfield 34, 3) := by decide +kernel
theorem dX5_readItem_106 : decode cX5_readItem 106 = .ok (.bipush 8, 2) := by decide +kernel
theorem dX5_readItem_108 : decode cX5_readItem 108 = .ok (.if_icmp .eq 5, 3) := by decide +kernel
theorem dX5_readItem_111 : decode cX5_readItem 111 = .ok (.iconst 0, 1) := by decide +kernel
theorem dX5_readItem_112 : decode cX5_readItem 112 = .ok (.ireturn, 1) := by decide +kernel
theorem dX5_readItem_113 : decode cX5_readItem 113 = .ok (.aload_n 1, 1) := by decide +kernel
theorem dX5_readItem_114 : decode cX5_readItem 114 = .ok (.getfield 53, 3) := by decide +kernel
theorem dX5_readItem_117 : decode cX5_readItem 117 = .ok (.iload_n 2, 1) := by decide +kernel
theorem dX5_readItem_118 : decode cX5_readItem 118 = .ok (.aload_n 0, 1) := by decide +kernel
theorem dX5_readItem_119 : decode cX5_readItem 119 = .ok (.getfield 34, 3) := by decide +kernel
theorem dX5_readItem_122 : decode cX5_readItem 122 = .ok (.bipush 7, 2) := by decide +kernel
theorem dX5_readItem_124 : decode cX5_readItem 124 = .ok (.isub, 1) := by decide +kernel
theorem dX5_readItem_125 : decode cX5_readItem 125 = .ok (.iastore, 1) := by decide +kernel
theorem dX5_readItem_126 : decode cX5_readItem 126 = .ok (.aload_n 0, 1) := by decide +kernel
theorem dX5_readItem_127 : decode cX5_readItem 127 = .ok (.invokevirtual 31, 3) := by decide +kernel
theorem dX5_readItem_130 : decode cX5_readItem 130 = .ok (.aload_n 0, 1) := by decide +kernel
theorem dX5_readItem_131 : decode cX5_readItem 131 = .ok (.getfield 34, 3) := by decide +kernel
theorem dX5_readItem_134 : decode cX5_readItem 134 = .ok (.iconst 2, 1) := by decide +kernel
theorem dX5_readItem_135 : decode cX5_readItem 135 = .ok (.if_icmp .ne 12, 3) := by decide +kernel
theorem dX5_readItem_138 : decode cX5_readItem 138 = .ok (.aload_n 0, 1) := by decide +kernel
theorem dX5_readItem_139 : decode cX5_readItem 139 = .ok (.getfield 50, 3) := by decide +kernel
theorem dX5_readItem_142 : decode cX5_readItem 142 = .ok (.bipush 8, 2) := by decide +kernel
theorem dX5_readItem_144 : decode cX5_readItem 144 = .ok (.if_icmp .le 5, 3) := by decide +kernel
theorem dX5_readItem_147 : decode cX5_readItem 147 = .ok (.iconst 0, 1) := by decide +kernel
theorem dX5_readItem_148 : decode cX5_readItem 148 = .ok (.ireturn, 1) := by decide +kernel
theorem dX5_readItem_149 : decode cX5_readItem 149 = .ok (.aload_n 1, 1) := by decide +kernel
theorem dX5_readItem_150 : decode cX5_readItem 150 = .ok (.getfield 56, 3) := by decide +kernel
theorem dX5_readItem_153 : decode cX5_readItem 153 = .ok (.iload_n 2, 1) := by decide +kernel
theorem dX5_readItem_154 : decode cX5_readItem 154 = .ok (.aload_n 0, 1) := by decide +kernel
theorem dX5_readItem_155 : decode cX5_readItem 155 = .ok (.getfield 50, 3) := by decide +kernel
theorem dX5_readItem_158 : decode cX5_readItem 158 = .ok (.iastore, 1) := by decide +kernel
theorem dX5_readItem_159 : decode cX5_readItem 159 = .ok (.aload_n 0, 1) := by decide +kernel
theorem dX5_readItem_160 : decode cX5_readItem 160 = .ok (.invokevirtual 31, 3) := by decide +kernel
theorem dX5_readItem_163 : decode cX5_readItem 163 = .ok (.aload_n 0, 1) := by decide +kernel
theorem dX5_readItem_164 : decode cX5_readItem 164 = .ok (.getfield 34, 3) := by decide +kernel
theorem dX5_readItem_167 : decode cX5_readItem 167 = .ok (.iconst 3, 1) := by decide +kernel
theorem dX5_readItem_168 : decode cX5_readItem 168 = .ok (.if_icmp .eq 5, 3) := by decide +kernel
theorem dX5_readItem_171 : decode cX5_readItem 171 = .ok (.iconst 0, 1) := by decide +kernel
theorem dX5_readItem_172 : decode cX5_readItem 172 = .ok (.ireturn, 1) := by decide +kernel
theorem dX5_readItem_173 : decode cX5_readItem 173 = .ok (.aload_n 0, 1) := by decide +kernel
theorem dX5_readItem_174 : decode cX5_readItem 174 = .ok (.invokevirtual 31, 3) := by decide +kernel
theorem dX5_readItem_177 : decode cX5_readItem 177 = .ok (.iconst 1, 1) := by decide +kernel
theorem dX5_readItem_178 : decode cX5_readItem 178 = .ok (.ireturn, 1) := by decide +kernel
theorem iX5_readItem_5 : ∀ w ∈ wsX50, w ∈ wsX5_readItem := fun w h => List.mem_cons_of_mem _ (List.mem_append_left _ (List.mem_append_right _ h))
theorem fX5_readItem_34 : FL mX5_readItem 34 5 4 := ⟨_, _, _, rfl, by decide, iX5_readItem_5, by decide +kernel⟩
theorem iX5_readItem_6 : ∀ w ∈ wsX60, w ∈ wsX5_readItem := fun w h => List.mem_cons_of_mem _ (List.mem_append_right _ h)
theorem fX5_readItem_44 : FL mX5_readItem 44 6 0 := ⟨_, _, _, rfl, by decide, iX5_readItem_6, by decide +kernel⟩
theorem fX5_readItem_47 : FL mX5_readItem 47 6 1 := ⟨_, _, _, rfl, by decide, iX5_readItem_6, by decide +kernel⟩
theorem fX5_readItem_50 : FL mX5_readItem 50 5 5 := ⟨_, _, _, rfl, by decide, iX5_readItem_5, by decide +kernel⟩
theorem fX5_readItem_53 : FL mX5_readItem 53 6 2 := ⟨_, _, _, rfl, by decide, iX5_readItem_6, by decide +kernel⟩
theorem fX5_readItem_56 : FL mX5_readItem 56 6 3 := ⟨_, _, _, rfl, by decide, iX5_readItem_6, by decide +kernel⟩
set_option maxRecDepth 20000 in
theorem ggX5_readItem_X5_advance : GoodIn wsX5_readItem wsX5_advance := goodIn_r _ [11, 12, 13, 14, 15, 1, 16, 17, 10, 18, 19, 20, 21, 22, 4, 23, 24, 25, 26, 27, 28, 29, 30, 31, 32, 33, 34, 35, 36, 37, 38, 39, 40, 41, 42, 43, 44, 45, 46, 47, 48, 49, 50, 51, 52, 53, 54, 55, 56, 57, 58, 59, 60, 61, 62, 63, 64, 65, 66, 67, 68, 69, 70, 71, 72, 73, 74, 75, 76, 77, 78, 79, 80, 81, 82, 83, 84, 85, 86, 87, 88, 89, 90, 91, 92] (by decide +kernel) (by decide +kernel)
set_option maxRecDepth 20000 in
theorem gX5_readItem_X5_advance : GoodIn wsX5_readItem (wsV RX5 31 RX5 yX5_advance wsX5_advance) := goodIn_app (goodIn_of _ (by decide +kernel)) ggX5_readItem_X5_advance
theorem wX5_readItem_31 : CWV mX5_readItem 31 mX5_advance 0 := ⟨gX5_readItem_X5_advance, ⟨_, rfl⟩, rfl, by decide +kernel, by decide +kernel, by decide +kernel⟩
abbrev mX5_readInto : mT := (yX5_readInto, RX5, cX5_readInto, 3, (some .int), wsX5_readInto)
abbrev rX5_readInto : Room := { frames := 10, cells := 0, slots := 0, locals := 230 }
theorem dX5_readInto_0 : decode cX5_readInto 0 = .ok (.aload_n 0, 1) := by decide +kernel
theorem dX5_readInto_1 : decode cX5_readInto 1 = .ok (.iconst 0, 1) := by decide +kernel
theorem dX5_readInto_2 : decode cX5_readInto 2 = .ok (.putfield 23, 3) := by decide +kernel
theorem dX5_readInto_5 : decode cX5_readInto 5 = .ok (.aload_n 1, 1) := by decide +kernel
theorem dX5_readInto_6 : decode cX5_readInto 6 = .ok (.iconst 0, 1) := by decide +kernel
theorem dX5_readInto_7 : decode cX5_readInto 7 = .ok (.putfield 26, 3) := by decide +kernel
theorem dX5_readInto_10 : decode cX5_readInto 10 = .ok (.aload_n 0, 1) := by decide +kernel
theorem dX5_readInto_11 : decode cX5_readInto 11 = .ok (.invokevirtual 31, 3) := by decide +kernel
theorem dX5_readInto_14 : decode cX5_readInto 14 = .ok (.iconst 0, 1) := by decide +kernel
theorem dX5_readInto_15 : decode cX5_readInto 15 = .ok (.istore_n 2, 1) := by decide +kernel
theorem dX5_readInto_16 : decode cX5_readInto 16 = .ok (.iload_n 2, 1) := by decide +kernel
theorem dX5_readInto_17 : decode cX5_readInto 17 = .ok (.sipush 300, 3) := by decide +kernel
theorem dX5_readInto_20 : decode cX5_readInto 20 = .ok (.if_icmp .gt 52, 3) := by decide +kernel
theorem dX5_readInto_23 : decode cX5_readInto 23 = .ok (.aload_n 0, 1) := by decide +kernel
theorem dX5_readInto_24 : decode cX5_readInto 24 = .ok (.getfield 34, 3) := by decide +kernel
theorem dX5_readInto_27 : decode cX5_readInto 27 = .ok (.ifCond .eq 45, 3) := by decide +kernel
theorem dX5_readInto_30 : decode cX5_readInto 30 = .ok (.aload_n 1, 1) := by decide +kernel
theorem dX5_readInto_31 : decode cX5_readInto 31 = .ok (.getfield 26, 3) := by decide +kernel
theorem dX5_readInto_34 : decode cX5_readInto 34 = .ok (.bipush 8, 2) := by decide +kernel
theorem dX5_readInto_36 : decode cX5_readInto 36 = .ok (.if_icmp .ge 15, 3) := by decide +kernel
theorem dX5_readInto_39 : decode cX5_readInto 39 = .ok (.aload_n 0, 1) := by decide +kernel
theorem dX5_readInto_40 : decode cX5_readInto 40 = .ok (.aload_n 1, 1) := by decide +kernel
theorem dX5_readInto_41 : decode cX5_readInto 41 = .ok (.aload_n 1, 1) := by decide +kernel
theorem dX5_readInto_42 : decode cX5_readInto 42 = .ok (.getfield 26, 3) := by decide +kernel
theorem dX5_readInto_45 : decode cX5_readInto 45 = .ok (.invokevirtual 37, 3) := by decide +kernel
theorem dX5_readInto_48 : decode cX5_readInto 48 = .ok (.ifCond .ne 8, 3) := by decide +kernel
theorem dX5_readInto_51 : decode cX5_readInto 51 = .ok (.aload_n 0, 1) := by decide +kernel
theorem dX5_readInto_52 : decode cX5_readInto 52 = .ok (.getfield 41, 3) := by decide +kernel
theorem dX5_readInto_55 : decode cX5_readInto 55 = .ok (.ireturn, 1) := by decide +kernel
theorem dX5_readInto_56 : decode cX5_readInto 56 = .ok (.aload_n 1, 1) := by decide +kernel
theorem dX5_readInto_57 : decode cX5_readInto 57 = .ok (.dup, 1) := by decide +kernel
theorem dX5_readInto_58 : decode cX5_readInto 58 = .ok (.getfield 26, 3) := by decide +kernel
theorem dX5_readInto_61 : decode cX5_readInto 61 = .ok (.iconst 1, 1) := by decide +kernel
theorem dX5_readInto_62 : decode cX5_readInto 62 = .ok (.iadd, 1) := by decide +kernel
theorem dX5_readInto_63 : decode cX5_readInto 63 = .ok (.putfield 26, 3) := by decide +kernel
theorem dX5_readInto_66 : decode cX5_readInto 66 = .ok (.iinc 2 1, 3) := by decide +kernel
theorem dX5_readInto_69 : decode cX5_readInto 69 = .ok (.goto (-53), 3) := by decide +kernel
theorem dX5_readInto_72 : decode cX5_readInto 72 = .ok (.iconst (-1), 1) := by decide +kernel
theorem dX5_readInto_73 : decode cX5_readInto 73 = .ok (.ireturn, 1) := by decide +kernel
theorem iX5_readInto_5 : ∀ w ∈ wsX50, w ∈ wsX5_readInto := fun w h => List.mem_cons_of_mem _ (List.mem_append_left _ (List.mem_append_right _ h))
theorem pX5_readInto_23 : FP mX5_readInto 23 5 2 .int false := ⟨_, _, _, tyX5, rfl, by decide, iX5_readInto_5, by decide +kernel, tyX5_ok, nmX5, rfl, rfl, fun z => absurd z (by decide)⟩
theorem iX5_readInto_6 : ∀ w ∈ wsX60, w ∈ wsX5_readInto := fun w h => List.mem_cons_of_mem _ (List.mem_append_right _ h)
theorem fX5_readInto_26 : FL mX5_readInto 26 6 4 := ⟨_, _, _, rfl, by decide, iX5_readInto_6, by decide +kernel⟩
theorem pX5_readInto_26 : FP mX5_readInto 26 6 4 .int false := ⟨_, _, _, tyX6, rfl, by decide, iX5_readInto_6, by decide +kernel, tyX6_ok, nmX6, rfl, rfl, fun z => absurd z (by decide)⟩
theorem fX5_readInto_34 : FL mX5_readInto 34 5 4 := ⟨_, _, _, rfl, by decide, iX5_readInto_5, by decide +kernel⟩
theorem fX5_readInto_41 : FL mX5_readInto 41 5 3 := ⟨_, _, _, rfl, by decide, iX5_readInto_5, by decide +kernel⟩
set_option maxRecDepth 20000 in
theorem ggX5_readInto_X5_advance : GoodIn wsX5_readInto wsX5_advance := goodIn_r _ [9, 1, 10, 11, 4, 3, 12, 13, 8, 14, 15, 16, 17, 18, 19, 20, 21, 22, 23, 24, 25, 26, 27, 28, 29, 30, 31, 32, 33, 34, 35, 36, 37, 38, 39, 40, 41, 42, 43, 44, 45, 46, 47, 48, 49, 50, 51, 52, 53, 54, 55, 56, 57, 58, 59, 60, 61, 62, 63, 64, 65, 66, 67, 68, 69, 70, 71, 72, 73, 74, 75, 76, 77, 78, 79, 80, 81, 82, 83, 92, 93, 94, 95, 96, 97] (by decide +kernel) (by decide +kernel)
set_option maxRecDepth 20000 in
theorem gX5_readInto_X5_advance : GoodIn wsX5_readInto (wsV RX5 31 RX5 yX5_advance wsX5_advance) := goodIn_app (goodIn_of _ (by decide +kernel)) ggX5_readInto_X5_advance
theorem wX5_readInto_31 : CWV mX5_readInto 31 mX5_advance 0 := ⟨gX5_readInto_X5_advance, ⟨_, rfl⟩, rfl, by decide +kernel, by decide +kernel, by decide +kernel⟩
set_option maxRecDepth 20000 in
theorem ggX5_readInto_X5_readItem : GoodIn wsX5_readInto wsX5_readItem := goodIn_r _ [87, 3, 88, 89, 19, 90, 91, 5, 6, 7, 8, 9, 1, 10, 11, 4, 12, 13, 14, 15, 16, 17, 18, 20, 21, 22, 23, 24, 25, 26, 27, 28, 29, 30, 31, 32, 33, 34, 35, 36, 37, 38, 39, 40, 41, 42, 43, 44, 45, 46, 47, 48, 49, 50, 51, 52, 53, 54, 55, 56, 57, 58, 59, 60, 61, 62, 63, 64, 65, 66, 67, 68, 69, 70, 71, 72, 73, 74, 75, 76, 77, 78, 79, 80, 81, 82, 83, 92, 93, 94, 95, 96, 97, 98, 99, 100, 101, 102] (by decide +kernel) (by decide +kernel)
set_option maxRecDepth 20000 in
theorem gX5_readInto_X5_readItem : GoodIn wsX5_readInto (wsV RX5 37 RX5 yX5_readItem wsX5_readItem) := goodIn_app (goodIn_of _ (by decide +kernel)) ggX5_readInto_X5_readItem
theorem wX5_readInto_37 : CWV mX5_readInto 37 mX5_readItem 2 := ⟨gX5_readInto_X5_readItem, ⟨_, rfl⟩, rfl, by decide +kernel, by decide +kernel, by decide +kernel⟩
abbrev sT : Type := Nat × Nat × Nat × Nat
def adv1 (t : Nat → Nat) (len : Nat) (S : sT) : sT := advF t len S.1 S.2.2.2
abbrev tqS (b len : Nat) (S : sT) : va_E := tq b len S.1 S.2.1 S.2.2.1 S.2.2.2
theorem advF_le {t : Nat → Nat} {len a v : Nat} (ha : a ≤ len) (hv : v ≤ 100) : (advF t len a v).1 ≤ len ∧ (advF t len a v).2.1 ≤ len ∧ (advF t len a v).2.2.1 ≤ 8 ∧ (advF t len a v).2.2.2 ≤ 100 := by
  have h1 := skp_le (p := isBl) (t := t) (len := len) (len - a) a ha
  unfold advF
  generalize skp isBl t len (len - a) a = s at h1 ⊢
  by_cases c1 : len ≤ s
  · rw [if_pos c1]; refine ⟨?_, ?_, ?_, ?_⟩ <;> dsimp only <;> omega
  · rw [if_neg c1]
    by_cases c2 : t s = 59
    · rw [if_pos c2]; refine ⟨?_, ?_, ?_, ?_⟩ <;> dsimp only <;> omega
    · rw [if_neg c2]
      by_cases c3 : isDg (t s) = true
      · rw [if_pos c3]
        have h2 := numS_le (t := t) (len := len) (len - s) s 0 (by omega) (by omega)
        refine ⟨h2.2.1, h1.2, ?_, h2.2.2⟩
        dsimp only
        split <;> omega
      · rw [if_neg c3]
        by_cases c4 : isLt (t s) = true
        · rw [if_pos c4]
          have h2 := skp_le (p := isLt) (t := t) (len := len) (len - s) s (by omega)
          refine ⟨h2.2, h1.2, ?_, hv⟩
          dsimp only
          unfold wTok
          repeat' (first | omega | split)
        · rw [if_neg c4]; refine ⟨?_, ?_, ?_, ?_⟩ <;> dsimp only <;> omega
def sOK (len : Nat) (S : sT) : Prop := S.1 ≤ len ∧ S.2.1 ≤ len ∧ S.2.2.1 ≤ 8 ∧ S.2.2.2 ≤ 100
theorem adv1_ok {t : Nat → Nat} {len : Nat} {S : sT} (h : sOK len S) : sOK len (adv1 t len S) := advF_le h.1 h.2.2.2
/-- an item from its way and tenths on -/
def itm2 (t : Nat → Nat) (len w x : Nat) (S2 : sT) : Nat ⊕ (Nat × Nat × Nat × Nat × sT) :=
  if S2.2.2.1 = 7 ∨ S2.2.2.1 = 8 then
    (if (adv1 t len S2).2.2.1 = 2 ∧ (adv1 t len S2).2.2.2 ≤ 8 then
      (if (adv1 t len (adv1 t len S2)).2.2.1 = 3 then .inr (w, x, S2.2.2.1 - 7, (adv1 t len S2).2.2.2, adv1 t len (adv1 t len (adv1 t len S2))) else .inl (adv1 t len (adv1 t len S2)).2.1)
    else .inl (adv1 t len S2).2.1)
  else .inl S2.2.1
/-- an item: the place of its fault, or way, tenths, pay, others and what stands behind it -/
def itm (t : Nat → Nat) (len : Nat) (S : sT) : Nat ⊕ (Nat × Nat × Nat × Nat × sT) :=
  if S.2.2.1 = 4 ∨ S.2.2.1 = 5 ∨ S.2.2.1 = 6 then
    (if S.2.2.1 = 6 then
      (if (adv1 t len S).2.2.1 = 2 ∧ (adv1 t len S).2.2.2 ≤ 10 then itm2 t len 2 (adv1 t len S).2.2.2 (adv1 t len (adv1 t len S)) else .inl (adv1 t len S).2.1)
    else itm2 t len (S.2.2.1 - 4) 0 (adv1 t len S))
  else .inl S.2.1
def H6 (Γ : gT) (q tw aw ax ay ao : Nat) (h : aH) (T : va_E) (n : Nat) (w x y o : Nat → Int32) : aH := fun j => if j = q then T else if j = tw then ob 6 [.ref aw, .ref ax, .ref ay, .ref ao, .int (nI n)] else if j = aw then aI Γ 8 w else if j = ax then aI Γ 8 x else if j = ay then aI Γ 8 y else if j = ao then aI Γ 8 o else h j
/-- the seven cells that reading needs lie apart -/
def D7 (as : List Nat) (q tw aw ax ay ao b : Nat) : Prop := (q ∈ as ∧ tw ∈ as ∧ aw ∈ as ∧ ax ∈ as ∧ ay ∈ as ∧ ao ∈ as ∧ b ∈ as) ∧ (tw ≠ q) ∧ (aw ≠ q ∧ aw ≠ tw) ∧ (ax ≠ q ∧ ax ≠ tw ∧ ax ≠ aw) ∧ (ay ≠ q ∧ ay ≠ tw ∧ ay ≠ aw ∧ ay ≠ ax) ∧ (ao ≠ q ∧ ao ≠ tw ∧ ao ≠ aw ∧ ao ≠ ax ∧ ao ≠ ay) ∧ (b ≠ q ∧ b ≠ tw ∧ b ≠ aw ∧ b ≠ ax ∧ b ≠ ay ∧ b ≠ ao)
section
variable {Γ : gT} {l : Launch} {as : List Nat} {h : aH} {q tw aw ax ay ao b len n : Nat} {bx w x y o : Nat → Int32} {t : Nat → Nat} {T T' : va_E} {S : sT}
theorem H6_q : hset (H6 Γ q tw aw ax ay ao h T n w x y o) q T' = H6 Γ q tw aw ax ay ao h T' n w x y o := by
  funext j
  unfold hset H6
  by_cases hj : j = q
  · rw [if_pos hj, if_pos hj]
  · simp only [if_neg hj]
theorem H6_n (d : D7 as q tw aw ax ay ao b) {n' : Nat} : hset (H6 Γ q tw aw ax ay ao h T n w x y o) tw (ob 6 [.ref aw, .ref ax, .ref ay, .ref ao, .int (nI n')]) = H6 Γ q tw aw ax ay ao h T n' w x y o := by
  funext j
  unfold hset H6
  by_cases hj : j = tw
  · rw [if_pos hj, if_neg (by rw [hj]; exact d.2.1), if_pos hj]
  · simp only [if_neg hj]
theorem H6_w (d : D7 as q tw aw ax ay ao b) {w' : Nat → Int32} : hset (H6 Γ q tw aw ax ay ao h T n w x y o) aw (aI Γ 8 w') = H6 Γ q tw aw ax ay ao h T n w' x y o := by
  funext j
  unfold hset H6
  by_cases hj : j = aw
  · rw [if_pos hj, if_neg (by rw [hj]; exact d.2.2.1.1), if_neg (by rw [hj]; exact d.2.2.1.2), if_pos hj]
  · simp only [if_neg hj]
theorem H6_x (d : D7 as q tw aw ax ay ao b) {w' : Nat → Int32} : hset (H6 Γ q tw aw ax ay ao h T n w x y o) ax (aI Γ 8 w') = H6 Γ q tw aw ax ay ao h T n w w' y o := by
  funext j
  unfold hset H6
  by_cases hj : j = ax
  · rw [if_pos hj, if_neg (by rw [hj]; exact d.2.2.2.1.1), if_neg (by rw [hj]; exact d.2.2.2.1.2.1), if_neg (by rw [hj]; exact d.2.2.2.1.2.2), if_pos hj]
  · simp only [if_neg hj]
theorem H6_y (d : D7 as q tw aw ax ay ao b) {w' : Nat → Int32} : hset (H6 Γ q tw aw ax ay ao h T n w x y o) ay (aI Γ 8 w') = H6 Γ q tw aw ax ay ao h T n w x w' o := by
  funext j
  unfold hset H6
  by_cases hj : j = ay
  · rw [if_pos hj, if_neg (by rw [hj]; exact d.2.2.2.2.1.1), if_neg (by rw [hj]; exact d.2.2.2.2.1.2.1), if_neg (by rw [hj]; exact d.2.2.2.2.1.2.2.1), if_neg (by rw [hj]; exact d.2.2.2.2.1.2.2.2), if_pos hj]
  · simp only [if_neg hj]
theorem H6_o (d : D7 as q tw aw ax ay ao b) {w' : Nat → Int32} : hset (H6 Γ q tw aw ax ay ao h T n w x y o) ao (aI Γ 8 w') = H6 Γ q tw aw ax ay ao h T n w x y w' := by
  funext j
  unfold hset H6
  by_cases hj : j = ao
  · rw [if_pos hj, if_neg (by rw [hj]; exact d.2.2.2.2.2.1.1), if_neg (by rw [hj]; exact d.2.2.2.2.2.1.2.1), if_neg (by rw [hj]; exact d.2.2.2.2.2.1.2.2.1), if_neg (by rw [hj]; exact d.2.2.2.2.2.1.2.2.2.1), if_neg (by rw [hj]; exact d.2.2.2.2.2.1.2.2.2.2), if_pos hj]
  · simp only [if_neg hj]
theorem at_q (d : D7 as q tw aw ax ay ao b) : hat as (H6 Γ q tw aw ax ay ao h T n w x y o) q T := ⟨d.1.1, if_pos rfl⟩
theorem at_t (d : D7 as q tw aw ax ay ao b) : hat as (H6 Γ q tw aw ax ay ao h T n w x y o) tw (ob 6 [.ref aw, .ref ax, .ref ay, .ref ao, .int (nI n)]) := ⟨d.1.2.1, by unfold H6; rw [if_neg d.2.1, if_pos rfl]⟩
theorem at_w (d : D7 as q tw aw ax ay ao b) : hat as (H6 Γ q tw aw ax ay ao h T n w x y o) aw (aI Γ 8 w) := ⟨d.1.2.2.1, by unfold H6; rw [if_neg d.2.2.1.1, if_neg d.2.2.1.2, if_pos rfl]⟩
theorem at_x (d : D7 as q tw aw ax ay ao b) : hat as (H6 Γ q tw aw ax ay ao h T n w x y o) ax (aI Γ 8 x) := ⟨d.1.2.2.2.1, by unfold H6; rw [if_neg d.2.2.2.1.1, if_neg d.2.2.2.1.2.1, if_neg d.2.2.2.1.2.2, if_pos rfl]⟩
theorem at_y (d : D7 as q tw aw ax ay ao b) : hat as (H6 Γ q tw aw ax ay ao h T n w x y o) ay (aI Γ 8 y) := ⟨d.1.2.2.2.2.1, by unfold H6; rw [if_neg d.2.2.2.2.1.1, if_neg d.2.2.2.2.1.2.1, if_neg d.2.2.2.2.1.2.2.1, if_neg d.2.2.2.2.1.2.2.2, if_pos rfl]⟩
theorem at_o (d : D7 as q tw aw ax ay ao b) : hat as (H6 Γ q tw aw ax ay ao h T n w x y o) ao (aI Γ 8 o) := ⟨d.1.2.2.2.2.2.1, by unfold H6; rw [if_neg d.2.2.2.2.2.1.1, if_neg d.2.2.2.2.2.1.2.1, if_neg d.2.2.2.2.2.1.2.2.1, if_neg d.2.2.2.2.2.1.2.2.2.1, if_neg d.2.2.2.2.2.1.2.2.2.2, if_pos rfl]⟩
theorem at_b (d : D7 as q tw aw ax ay ao b) (hb : h b = aI Γ 300 bx) : hat as (H6 Γ q tw aw ax ay ao h T n w x y o) b (aI Γ 300 bx) := ⟨d.1.2.2.2.2.2.2, by unfold H6; rw [if_neg d.2.2.2.2.2.2.1, if_neg d.2.2.2.2.2.2.2.1, if_neg d.2.2.2.2.2.2.2.2.1, if_neg d.2.2.2.2.2.2.2.2.2.1, if_neg d.2.2.2.2.2.2.2.2.2.2.1, if_neg d.2.2.2.2.2.2.2.2.2.2.2]; exact hb⟩
/-- advance, over the seven cells -/
theorem c_adv6 (d : D7 as q tw aw ax ay ao b) (hb : h b = aI Γ 300 bx) (ht : ∀ j, j < len → bx j = nI (t j) ∧ t j < 256) (hl : len ≤ 300) (hS : sOK len S) : Det Γ l mX5_advance rX5_advance [.ref q] as (H6 Γ q tw aw ax ay ao h (tqS b len S) n w x y o) none (H6 Γ q tw aw ax ay ao h (tqS b len (adv1 t len S)) n w x y o) := by
  have := c_advance (Γ := Γ) (l := l) (t := t) (at_q (Γ := Γ) (h := h) (T := tqS b len S) (n := n) (w := w) (x := x) (y := y) (o := o) d) (at_b d hb) ht hl hS.1
  rw [H6_q] at this
  exact this
/-- what readItem says: an item of person p -/
def qItm (Γ : gT) (q tw aw ax ay ao b len : Nat) (as : List Nat) (h : aH) (n p : Nat) (w x y o : Nat → Int32) (R : Nat ⊕ (Nat × Nat × Nat × Nat × sT)) : qT := fun r as' h' => as' = as ∧ match R with
  | .inl f => r = some (.int 0) ∧ ∃ (S' : sT) (w' x' y' o' : Nat → Int32), S'.2.1 = f ∧ sOK len S' ∧ h' = H6 Γ q tw aw ax ay ao h (tqS b len S') n w' x' y' o'
  | .inr (i0, i1, i2, i3, S') => r = some (.int 1) ∧ sOK len S' ∧ h' = H6 Γ q tw aw ax ay ao h (tqS b len S') n (upd w p (nI i0)) (upd x p (nI i1)) (upd y p (nI i2)) (upd o p (nI i3))
theorem upd_upd (f : Nat → Int32) (k : Nat) (u v : Int32) : upd (upd f k u) k v = upd f k v := by
  funext j
  by_cases hj : j = k
  · rw [hj, pk_us, pk_us]
  · rw [pk_un hj, pk_un hj, pk_un hj]
theorem item_tail (d : D7 as q tw aw ax ay ao b) (hb : h b = aI Γ 300 bx) (ht : ∀ j, j < len → bx j = nI (t j) ∧ t j < 256) (hl : len ≤ 300) (hS : sOK len S) {p i0 i1 : Nat} (hp : p < 8) {w0 x0 : Nat → Int32} : V Γ l mX5_readItem rX5_readItem (Zm Γ rX5_readItem (qItm Γ q tw aw ax ay ao b len as h n p w0 x0 y o (itm2 t len i0 i1 S))) 0 0 93 [(0, .ref q), (1, .ref tw), (2, .int (nI p))] [] as (H6 Γ q tw aw ax ay ao h (tqS b len S) n (upd w0 p (nI i0)) (upd x0 p (nI i1)) y o) := by
  have hS1 := adv1_ok (t := t) hS
  have hS2 := adv1_ok (t := t) hS1
  have hS3 := adv1_ok (t := t) hS2
  have go : (S.2.2.1 = 7 ∨ S.2.2.1 = 8) → V Γ l mX5_readItem rX5_readItem (Zm Γ rX5_readItem (qItm Γ q tw aw ax ay ao b len as h n p w0 x0 y o (itm2 t len i0 i1 S))) 0 0 113 [(0, .ref q), (1, .ref tw), (2, .int (nI p))] [] as (H6 Γ q tw aw ax ay ao h (tqS b len S) n (upd w0 p (nI i0)) (upd x0 p (nI i1)) y o) := by
    intro hk
    unfold itm2
    rw [if_pos hk]
    refine q_aload_n dX5_readItem_113 rfl rfl ?_
    refine q_get dX5_readItem_114 fX5_readItem_53 (at_t d) rfl ?_
    refine q_iload_n dX5_readItem_117 rfl rfl ?_
    refine q_aload_n dX5_readItem_118 rfl rfl ?_
    refine q_get dX5_readItem_119 fX5_readItem_34 (at_q d) rfl ?_
    refine q_bipush (v := 7) dX5_readItem_122 rfl ?_
    refine q_isub dX5_readItem_124 ?_
    rw [show nI S.2.2.1 - 7 = nI (S.2.2.1 - 7) from pk_sub (b := 7) (by omega)]
    refine q_iast dX5_readItem_125 (at_y d) (in_nI hp (by omega)) ?_
    refine q_aload_n dX5_readItem_126 rfl rfl ?_
    rw [H6_y d, nI_clamp (by omega)]
    refine q_callVd dX5_readItem_127 wX5_readItem_31 (c_adv6 d hb ht hl hS) (at_q d) ⟨_, _, rfl⟩ rfl rfl (Nat.le_of_ble_eq_true rfl) ⟨⟨Nat.le_of_ble_eq_true rfl, Nat.le_of_ble_eq_true rfl⟩, Nat.le_of_ble_eq_true rfl, Nat.le_of_ble_eq_true rfl⟩ ?_
    refine q_aload_n dX5_readItem_130 rfl rfl ?_
    refine q_get dX5_readItem_131 fX5_readItem_34 (at_q d) rfl ?_
    refine q_iconst (v := 2) dX5_readItem_134 rfl ?_
    refine q_icmp_ne 147 dX5_readItem_135 (by decide) (fun cA => ?_) (fun cA => ?_)
    · rw [if_neg (fun z => by first | exact cB (nI_le (b := 8) z.2 (by omega)) | exact cA (by rw [z.1]; rfl))]
      refine q_iconst (v := 0) dX5_readItem_147 rfl ?_
      exact q_zret dX5_readItem_148 rfl (rfl) (Nat.zero_le _) (Nat.zero_le _) (⟨rfl, rfl, _, _, _, _, _, rfl, hS1, rfl⟩)
    · refine q_aload_n dX5_readItem_138 rfl rfl ?_
      refine q_get dX5_readItem_139 fX5_readItem_50 (at_q d) rfl ?_
      refine q_bipush (v := 8) dX5_readItem_142 rfl ?_
      refine q_icmp_le 149 dX5_readItem_144 (by decide) (fun cB => ?_) (fun cB => ?_)
      · have c8 : (adv1 t len S).2.2.2 ≤ 8 := (nI_leI (b := 8) (Nat.lt_of_le_of_lt hS1.2.2.2 (by omega)) (by omega)).mp cB
        rw [if_pos ⟨(nI_eq (b := 2) (Nat.lt_of_le_of_lt hS1.2.2.1 (by omega)) (by omega)).mp cA, c8⟩]
        refine q_aload_n dX5_readItem_149 rfl rfl ?_
        refine q_get dX5_readItem_150 fX5_readItem_56 (at_t d) rfl ?_
        refine q_iload_n dX5_readItem_153 rfl rfl ?_
        refine q_aload_n dX5_readItem_154 rfl rfl ?_
        refine q_get dX5_readItem_155 fX5_readItem_50 (at_q d) rfl ?_
        refine q_iast dX5_readItem_158 (at_o d) (in_nI hp (by omega)) ?_
        refine q_aload_n dX5_readItem_159 rfl rfl ?_
        rw [H6_o d, nI_clamp (by omega)]
        refine q_callVd dX5_readItem_160 wX5_readItem_31 (c_adv6 d hb ht hl hS1) (at_q d) ⟨_, _, rfl⟩ rfl rfl (Nat.le_of_ble_eq_true rfl) ⟨⟨Nat.le_of_ble_eq_true rfl, Nat.le_of_ble_eq_true rfl⟩, Nat.le_of_ble_eq_true rfl, Nat.le_of_ble_eq_true rfl⟩ ?_
        refine q_aload_n dX5_readItem_163 rfl rfl ?_
        refine q_get dX5_readItem_164 fX5_readItem_34 (at_q d) rfl ?_
        refine q_iconst (v := 3) dX5_readItem_167 rfl ?_
        refine q_icmp_eq 173 dX5_readItem_168 (by decide) (fun cC => ?_) (fun cC => ?_)
        · rw [if_pos ((nI_eq (b := 3) (Nat.lt_of_le_of_lt hS2.2.2.1 (by omega)) (by omega)).mp cC)]
          refine q_aload_n dX5_readItem_173 rfl rfl ?_
          refine q_callVd dX5_readItem_174 wX5_readItem_31 (c_adv6 d hb ht hl hS2) (at_q d) ⟨_, _, rfl⟩ rfl rfl (Nat.le_of_ble_eq_true rfl) ⟨⟨Nat.le_of_ble_eq_true rfl, Nat.le_of_ble_eq_true rfl⟩, Nat.le_of_ble_eq_true rfl, Nat.le_of_ble_eq_true rfl⟩ ?_
          refine q_iconst (v := 1) dX5_readItem_177 rfl ?_
          exact q_zret dX5_readItem_178 rfl (rfl) (Nat.zero_le _) (Nat.zero_le _) (⟨rfl, rfl, hS3, rfl⟩)
        · rw [if_neg (fun z => cC (by rw [z]; rfl))]
          refine q_iconst (v := 0) dX5_readItem_171 rfl ?_
          exact q_zret dX5_readItem_172 rfl (rfl) (Nat.zero_le _) (Nat.zero_le _) (⟨rfl, rfl, _, _, _, _, _, rfl, hS2, rfl⟩)
      · rw [if_neg (fun z => by first | exact cB (nI_le (b := 8) z.2 (by omega)) | exact cA (by rw [z.1]; rfl))]
        refine q_iconst (v := 0) dX5_readItem_147 rfl ?_
        exact q_zret dX5_readItem_148 rfl (rfl) (Nat.zero_le _) (Nat.zero_le _) (⟨rfl, rfl, _, _, _, _, _, rfl, hS1, rfl⟩)
  refine q_aload_n dX5_readItem_93 rfl rfl ?_
  refine q_get dX5_readItem_94 fX5_readItem_34 (at_q d) rfl ?_
  refine q_bipush (v := 7) dX5_readItem_97 rfl ?_
  refine q_icmp_eq 113 dX5_readItem_99 (by decide) (fun c7 => ?_) (fun c7 => ?_)
  · refine go ?_
    first | exact Or.inr ((nI_eq (b := 8) (Nat.lt_of_le_of_lt hS.2.2.1 (by omega)) (by omega)).mp c8) | exact Or.inl ((nI_eq (b := 7) (Nat.lt_of_le_of_lt hS.2.2.1 (by omega)) (by omega)).mp c7)
  · refine q_aload_n dX5_readItem_102 rfl rfl ?_
    refine q_get dX5_readItem_103 fX5_readItem_34 (at_q d) rfl ?_
    refine q_bipush (v := 8) dX5_readItem_106 rfl ?_
    refine q_icmp_eq 113 dX5_readItem_108 (by decide) (fun c8 => ?_) (fun c8 => ?_)
    · refine go ?_
      first | exact Or.inr ((nI_eq (b := 8) (Nat.lt_of_le_of_lt hS.2.2.1 (by omega)) (by omega)).mp c8) | exact Or.inl ((nI_eq (b := 7) (Nat.lt_of_le_of_lt hS.2.2.1 (by omega)) (by omega)).mp c7)
    · unfold itm2
      rw [if_neg (fun z => by rcases z with z | z; exact c7 (by rw [z]; rfl); exact c8 (by rw [z]; rfl))]
      refine q_iconst (v := 0) dX5_readItem_111 rfl ?_
      exact q_zret dX5_readItem_112 rfl (rfl) (Nat.zero_le _) (Nat.zero_le _) (⟨rfl, rfl, _, _, _, _, _, rfl, hS, rfl⟩)
theorem c_readItem (d : D7 as q tw aw ax ay ao b) (hb : h b = aI Γ 300 bx) (ht : ∀ j, j < len → bx j = nI (t j) ∧ t j < 256) (hl : len ≤ 300) (hS : sOK len S) {p : Nat} (hp : p < 8) : Con Γ l mX5_readItem rX5_readItem [.ref q, .ref tw, .int (nI p)] as (H6 Γ q tw aw ax ay ao h (tqS b len S) n w x y o) (qItm Γ q tw aw ax ay ao b len as h n p w x y o (itm t len S)) := by
  have hS1 := adv1_ok (t := t) hS
  have hS2 := adv1_ok (t := t) hS1
  have go : (S.2.2.1 = 4 ∨ S.2.2.1 = 5 ∨ S.2.2.1 = 6) → V Γ l mX5_readItem rX5_readItem (Zm Γ rX5_readItem (qItm Γ q tw aw ax ay ao b len as h n p w x y o (itm t len S))) 0 0 27 [(0, .ref q), (1, .ref tw), (2, .int (nI p))] [] as (H6 Γ q tw aw ax ay ao h (tqS b len S) n w x y o) := by
    intro hk
    unfold itm
    rw [if_pos hk]
    refine q_aload_n dX5_readItem_27 rfl rfl ?_
    refine q_get dX5_readItem_28 fX5_readItem_44 (at_t d) rfl ?_
    refine q_iload_n dX5_readItem_31 rfl rfl ?_
    refine q_aload_n dX5_readItem_32 rfl rfl ?_
    refine q_get dX5_readItem_33 fX5_readItem_34 (at_q d) rfl ?_
    refine q_iconst (v := 4) dX5_readItem_36 rfl ?_
    refine q_isub dX5_readItem_37 ?_
    rw [show nI S.2.2.1 - 4 = nI (S.2.2.1 - 4) from pk_sub (b := 4) (by omega)]
    refine q_iast dX5_readItem_38 (at_w d) (in_nI hp (by omega)) ?_
    rw [H6_w d, nI_clamp (by omega)]
    refine q_aload_n dX5_readItem_39 rfl rfl ?_
    refine q_get dX5_readItem_40 fX5_readItem_47 (at_t d) rfl ?_
    refine q_iload_n dX5_readItem_43 rfl rfl ?_
    refine q_iconst (v := 0) dX5_readItem_44 rfl ?_
    refine q_iast dX5_readItem_45 (at_x d) (in_nI hp (by omega)) ?_
    rw [H6_x d, nI_clamp (by omega)]
    refine q_aload_n dX5_readItem_46 rfl rfl ?_
    refine q_callVd dX5_readItem_47 wX5_readItem_31 (c_adv6 d hb ht hl hS) (at_q d) ⟨_, _, rfl⟩ rfl rfl (Nat.le_of_ble_eq_true rfl) ⟨⟨Nat.le_of_ble_eq_true rfl, Nat.le_of_ble_eq_true rfl⟩, Nat.le_of_ble_eq_true rfl, Nat.le_of_ble_eq_true rfl⟩ ?_
    refine q_aload_n dX5_readItem_50 rfl rfl ?_
    refine q_get dX5_readItem_51 fX5_readItem_44 (at_t d) rfl ?_
    refine q_iload_n dX5_readItem_54 rfl rfl ?_
    refine q_iald dX5_readItem_55 (at_w d) (in_nI hp (by omega)) ?_
    refine q_iconst (v := 2) dX5_readItem_56 rfl ?_
    rw [nI_clamp (by omega), pk_us]
    refine q_icmp_ne 93 dX5_readItem_57 (by decide) (fun c6 => ?_) (fun c6 => ?_)
    · rw [if_neg (fun z => c6 (by rw [z]; rfl))]
      exact item_tail (i1 := 0) d hb ht hl hS1 hp
    · have k6 : S.2.2.1 = 6 := by
        have := (nI_eq (a := S.2.2.1 - 4) (b := 2) (by omega) (by omega)).mp c6
        omega
      rw [if_pos k6, k6]
      refine q_aload_n dX5_readItem_60 rfl rfl ?_
      refine q_get dX5_readItem_61 fX5_readItem_34 (at_q d) rfl ?_
      refine q_iconst (v := 2) dX5_readItem_64 rfl ?_
      refine q_icmp_ne 77 dX5_readItem_65 (by decide) (fun cA => ?_) (fun cA => ?_)
      · rw [if_neg (fun z => by first | exact cB (nI_le (b := 10) z.2 (by omega)) | exact cA (by rw [z.1]; rfl))]
        refine q_iconst (v := 0) dX5_readItem_77 rfl ?_
        exact q_zret dX5_readItem_78 rfl (rfl) (Nat.zero_le _) (Nat.zero_le _) (⟨rfl, rfl, _, _, _, _, _, rfl, hS1, rfl⟩)
      · refine q_aload_n dX5_readItem_68 rfl rfl ?_
        refine q_get dX5_readItem_69 fX5_readItem_50 (at_q d) rfl ?_
        refine q_bipush (v := 10) dX5_readItem_72 rfl ?_
        refine q_icmp_le 79 dX5_readItem_74 (by decide) (fun cB => ?_) (fun cB => ?_)
        · have c10 : (adv1 t len S).2.2.2 ≤ 10 := (nI_leI (b := 10) (Nat.lt_of_le_of_lt hS1.2.2.2 (by omega)) (by omega)).mp cB
          rw [if_pos ⟨(nI_eq (b := 2) (Nat.lt_of_le_of_lt hS1.2.2.1 (by omega)) (by omega)).mp cA, c10⟩]
          refine q_aload_n dX5_readItem_79 rfl rfl ?_
          refine q_get dX5_readItem_80 fX5_readItem_47 (at_t d) rfl ?_
          refine q_iload_n dX5_readItem_83 rfl rfl ?_
          refine q_aload_n dX5_readItem_84 rfl rfl ?_
          refine q_get dX5_readItem_85 fX5_readItem_50 (at_q d) rfl ?_
          refine q_iast dX5_readItem_88 (at_x d) (in_nI hp (by omega)) ?_
          refine q_aload_n dX5_readItem_89 rfl rfl ?_
          rw [H6_x d, nI_clamp (by omega), upd_upd]
          refine q_callVd dX5_readItem_90 wX5_readItem_31 (c_adv6 d hb ht hl hS1) (at_q d) ⟨_, _, rfl⟩ rfl rfl (Nat.le_of_ble_eq_true rfl) ⟨⟨Nat.le_of_ble_eq_true rfl, Nat.le_of_ble_eq_true rfl⟩, Nat.le_of_ble_eq_true rfl, Nat.le_of_ble_eq_true rfl⟩ ?_
          exact item_tail (i0 := 2) d hb ht hl hS2 hp
        · rw [if_neg (fun z => by first | exact cB (nI_le (b := 10) z.2 (by omega)) | exact cA (by rw [z.1]; rfl))]
          refine q_iconst (v := 0) dX5_readItem_77 rfl ?_
          exact q_zret dX5_readItem_78 rfl (rfl) (Nat.zero_le _) (Nat.zero_le _) (⟨rfl, rfl, _, _, _, _, _, rfl, hS1, rfl⟩)
  refine Con.of (by decide +kernel) rfl rfl (Nat.le_of_ble_eq_true rfl) ?_
  refine q_aload_n dX5_readItem_0 rfl rfl ?_
  refine q_get dX5_readItem_1 fX5_readItem_34 (at_q d) rfl ?_
  refine q_iconst (v := 4) dX5_readItem_4 rfl ?_
  refine q_icmp_eq 27 dX5_readItem_5 (by decide) (fun c4 => ?_) (fun c4 => ?_)
  · refine go ?_
    first | exact Or.inr (Or.inr ((nI_eq (b := 6) (Nat.lt_of_le_of_lt hS.2.2.1 (by omega)) (by omega)).mp c6)) | exact Or.inr (Or.inl ((nI_eq (b := 5) (Nat.lt_of_le_of_lt hS.2.2.1 (by omega)) (by omega)).mp c5)) | exact Or.inl ((nI_eq (b := 4) (Nat.lt_of_le_of_lt hS.2.2.1 (by omega)) (by omega)).mp c4)
  · refine q_aload_n dX5_readItem_8 rfl rfl ?_
    refine q_get dX5_readItem_9 fX5_readItem_34 (at_q d) rfl ?_
    refine q_iconst (v := 5) dX5_readItem_12 rfl ?_
    refine q_icmp_eq 27 dX5_readItem_13 (by decide) (fun c5 => ?_) (fun c5 => ?_)
    · refine go ?_
      first | exact Or.inr (Or.inr ((nI_eq (b := 6) (Nat.lt_of_le_of_lt hS.2.2.1 (by omega)) (by omega)).mp c6)) | exact Or.inr (Or.inl ((nI_eq (b := 5) (Nat.lt_of_le_of_lt hS.2.2.1 (by omega)) (by omega)).mp c5)) | exact Or.inl ((nI_eq (b := 4) (Nat.lt_of_le_of_lt hS.2.2.1 (by omega)) (by omega)).mp c4)
    · refine q_aload_n dX5_readItem_16 rfl rfl ?_
      refine q_get dX5_readItem_17 fX5_readItem_34 (at_q d) rfl ?_
      refine q_bipush (v := 6) dX5_readItem_20 rfl ?_
      refine q_icmp_eq 27 dX5_readItem_22 (by decide) (fun c6 => ?_) (fun c6 => ?_)
      · refine go ?_
        first | exact Or.inr (Or.inr ((nI_eq (b := 6) (Nat.lt_of_le_of_lt hS.2.2.1 (by omega)) (by omega)).mp c6)) | exact Or.inr (Or.inl ((nI_eq (b := 5) (Nat.lt_of_le_of_lt hS.2.2.1 (by omega)) (by omega)).mp c5)) | exact Or.inl ((nI_eq (b := 4) (Nat.lt_of_le_of_lt hS.2.2.1 (by omega)) (by omega)).mp c4)
      · unfold itm
        rw [if_neg (fun z => by rcases z with z | z | z; exact c4 (by rw [z]; rfl); exact c5 (by rw [z]; rfl); exact c6 (by rw [z]; rfl))]
        refine q_iconst (v := 0) dX5_readItem_25 rfl ?_
        exact q_zret dX5_readItem_26 rfl (rfl) (Nat.zero_le _) (Nat.zero_le _) (⟨rfl, rfl, _, _, _, _, _, rfl, hS, rfl⟩)
end

