/-! THE REFERENCE (X9): its reader: here, isSpelled, word, next, due -/
abbrev mX9_here : mT := (yX9_here, RX9, cX9_here, 1, (some .int), wsX9_here)
abbrev rX9_here : Room := { frames := 0, cells := 0, slots := 0, locals := 0 }
theorem dX9_here_0 : decode cX9_here 0 = .ok (.aload_n 0, 1) := by decide +kernel
theorem dX9_here_1 : decode cX9_here 1 = .ok (.getfield 70, 3) := by decide +kernel
theorem dX9_here_4 : decode cX9_here 4 = .ok (.aload_n 0, 1) := by decide +kernel
theorem dX9_here_5 : decode cX9_here 5 = .ok (.getfield 64, 3) := by decide +kernel
theorem dX9_here_8 : decode cX9_here 8 = .ok (.if_icmp .ge 19, 3) := by decide +kernel
theorem dX9_here_11 : decode cX9_here 11 = .ok (.aload_n 0, 1) := by decide +kernel
theorem dX9_here_12 : decode cX9_here 12 = .ok (.getfield 7, 3) := by decide +kernel
theorem dX9_here_15 : decode cX9_here 15 = .ok (.aload_n 0, 1) := by decide +kernel
theorem dX9_here_16 : decode cX9_here 16 = .ok (.getfield 70, 3) := by decide +kernel
theorem dX9_here_19 : decode cX9_here 19 = .ok (.baload, 1) := by decide +kernel
theorem dX9_here_20 : decode cX9_here 20 = .ok (.sipush 255, 3) := by decide +kernel
theorem dX9_here_23 : decode cX9_here 23 = .ok (.iand, 1) := by decide +kernel
theorem dX9_here_24 : decode cX9_here 24 = .ok (.goto 4, 3) := by decide +kernel
theorem dX9_here_27 : decode cX9_here 27 = .ok (.iconst (-1), 1) := by decide +kernel
theorem dX9_here_28 : decode cX9_here 28 = .ok (.ireturn, 1) := by decide +kernel
theorem iX9_here_9 : ∀ w ∈ wsX90, w ∈ wsX9_here := fun w h => List.mem_cons_of_mem _ (List.mem_append_right _ h)
theorem fX9_here_7 : FL mX9_here 7 9 1 := ⟨_, _, _, rfl, by decide, iX9_here_9, by decide +kernel⟩
theorem fX9_here_64 : FL mX9_here 64 9 2 := ⟨_, _, _, rfl, by decide, iX9_here_9, by decide +kernel⟩
theorem fX9_here_70 : FL mX9_here 70 9 8 := ⟨_, _, _, rfl, by decide, iX9_here_9, by decide +kernel⟩
abbrev mX9_isSpelled : mT := (yX9_isSpelled, RX9, cX9_isSpelled, 7, (some .boolean), wsX9_isSpelled)
abbrev rX9_isSpelled : Room := { frames := 0, cells := 0, slots := 0, locals := 0 }
theorem dX9_isSpelled_0 : decode cX9_isSpelled 0 = .ok (.aload_n 0, 1) := by decide +kernel
theorem dX9_isSpelled_1 : decode cX9_isSpelled 1 = .ok (.getfield 70, 3) := by decide +kernel
theorem dX9_isSpelled_4 : decode cX9_isSpelled 4 = .ok (.aload_n 0, 1) := by decide +kernel
theorem dX9_isSpelled_5 : decode cX9_isSpelled 5 = .ok (.getfield 73, 3) := by decide +kernel
theorem dX9_isSpelled_8 : decode cX9_isSpelled 8 = .ok (.isub, 1) := by decide +kernel
theorem dX9_isSpelled_9 : decode cX9_isSpelled 9 = .ok (.iload_n 1, 1) := by decide +kernel
theorem dX9_isSpelled_10 : decode cX9_isSpelled 10 = .ok (.if_icmp .ne 67, 3) := by decide +kernel
theorem dX9_isSpelled_13 : decode cX9_isSpelled 13 = .ok (.aload_n 0, 1) := by decide +kernel
theorem dX9_isSpelled_14 : decode cX9_isSpelled 14 = .ok (.getfield 7, 3) := by decide +kernel
theorem dX9_isSpelled_17 : decode cX9_isSpelled 17 = .ok (.aload_n 0, 1) := by decide +kernel
theorem dX9_isSpelled_18 : decode cX9_isSpelled 18 = .ok (.getfield 73, 3) := by decide +kernel
theorem dX9_isSpelled_21 : decode cX9_isSpelled 21 = .ok (.baload, 1) := by decide +kernel
theorem dX9_isSpelled_22 : decode cX9_isSpelled 22 = .ok (.iload_n 2, 1) := by decide +kernel
theorem dX9_isSpelled_23 : decode cX9_isSpelled 23 = .ok (.if_icmp .ne 54, 3) := by decide +kernel
theorem dX9_isSpelled_26 : decode cX9_isSpelled 26 = .ok (.aload_n 0, 1) := by decide +kernel
theorem dX9_isSpelled_27 : decode cX9_isSpelled 27 = .ok (.getfield 7, 3) := by decide +kernel
theorem dX9_isSpelled_30 : decode cX9_isSpelled 30 = .ok (.aload_n 0, 1) := by decide +kernel
theorem dX9_isSpelled_31 : decode cX9_isSpelled 31 = .ok (.getfield 73, 3) := by decide +kernel
theorem dX9_isSpelled_34 : decode cX9_isSpelled 34 = .ok (.iconst 1, 1) := by decide +kernel
theorem dX9_isSpelled_35 : decode cX9_isSpelled 35 = .ok (.iadd, 1) := by decide +kernel
theorem dX9_isSpelled_36 : decode cX9_isSpelled 36 = .ok (.baload, 1) := by decide +kernel
theorem dX9_isSpelled_37 : decode cX9_isSpelled 37 = .ok (.iload_n 3, 1) := by decide +kernel
theorem dX9_isSpelled_38 : decode cX9_isSpelled 38 = .ok (.if_icmp .ne 39, 3) := by decide +kernel
theorem dX9_isSpelled_41 : decode cX9_isSpelled 41 = .ok (.aload_n 0, 1) := by decide +kernel
theorem dX9_isSpelled_42 : decode cX9_isSpelled 42 = .ok (.getfield 7, 3) := by decide +kernel
theorem dX9_isSpelled_45 : decode cX9_isSpelled 45 = .ok (.aload_n 0, 1) := by decide +kernel
theorem dX9_isSpelled_46 : decode cX9_isSpelled 46 = .ok (.getfield 73, 3) := by decide +kernel
theorem dX9_isSpelled_49 : decode cX9_isSpelled 49 = .ok (.iconst 2, 1) := by decide +kernel
theorem dX9_isSpelled_50 : decode cX9_isSpelled 50 = .ok (.iadd, 1) := by decide +kernel
theorem dX9_isSpelled_51 : decode cX9_isSpelled 51 = .ok (.baload, 1) := by decide +kernel
theorem dX9_isSpelled_52 : decode cX9_isSpelled 52 = .ok (.iload 4, 2) := by decide +kernel
theorem dX9_isSpelled_54 : decode cX9_isSpelled 54 = .ok (.if_icmp .ne 23, 3) := by decide +kernel
theorem dX9_isSpelled_57 : decode cX9_isSpelled 57 = .ok (.aload_n 0, 1) := by decide +kernel
theorem dX9_isSpelled_58 : decode cX9_isSpelled 58 = .ok (.getfield 7, 3) := by decide +kernel
theorem dX9_isSpelled_61 : decode cX9_isSpelled 61 = .ok (.aload_n 0, 1) := by decide +kernel
theorem dX9_isSpelled_62 : decode cX9_isSpelled 62 = .ok (.getfield 73, 3) := by decide +kernel
theorem dX9_isSpelled_65 : decode cX9_isSpelled 65 = .ok (.iconst 3, 1) := by decide +kernel
theorem dX9_isSpelled_66 : decode cX9_isSpelled 66 = .ok (.iadd, 1) := by decide +kernel
theorem dX9_isSpelled_67 : decode cX9_isSpelled 67 = .ok (.baload, 1) := by decide +kernel
theorem dX9_isSpelled_68 : decode cX9_isSpelled 68 = .ok (.iload 5, 2) := by decide +kernel
theorem dX9_isSpelled_70 : decode cX9_isSpelled 70 = .ok (.if_icmp .ne 7, 3) := by decide +kernel
theorem dX9_isSpelled_73 : decode cX9_isSpelled 73 = .ok (.iconst 1, 1) := by decide +kernel
theorem dX9_isSpelled_74 : decode cX9_isSpelled 74 = .ok (.goto 4, 3) := by decide +kernel
theorem dX9_isSpelled_77 : decode cX9_isSpelled 77 = .ok (.iconst 0, 1) := by decide +kernel
theorem dX9_isSpelled_78 : decode cX9_isSpelled 78 = .ok (.istore 6, 2) := by decide +kernel
theorem dX9_isSpelled_80 : decode cX9_isSpelled 80 = .ok (.iload 6, 2) := by decide +kernel
theorem dX9_isSpelled_82 : decode cX9_isSpelled 82 = .ok (.ifCond .eq 39, 3) := by decide +kernel
theorem dX9_isSpelled_85 : decode cX9_isSpelled 85 = .ok (.iload_n 1, 1) := by decide +kernel
theorem dX9_isSpelled_86 : decode cX9_isSpelled 86 = .ok (.iconst 5, 1) := by decide +kernel
theorem dX9_isSpelled_87 : decode cX9_isSpelled 87 = .ok (.if_icmp .lt 30, 3) := by decide +kernel
theorem dX9_isSpelled_90 : decode cX9_isSpelled 90 = .ok (.aload_n 0, 1) := by decide +kernel
theorem dX9_isSpelled_91 : decode cX9_isSpelled 91 = .ok (.getfield 7, 3) := by decide +kernel
theorem dX9_isSpelled_94 : decode cX9_isSpelled 94 = .ok (.aload_n 0, 1) := by decide +kernel
theorem dX9_isSpelled_95 : decode cX9_isSpelled 95 = .ok (.getfield 73, 3) := by decide +kernel
theorem dX9_isSpelled_98 : decode cX9_isSpelled 98 = .ok (.iconst 4, 1) := by decide +kernel
theorem dX9_isSpelled_99 : decode cX9_isSpelled 99 = .ok (.iadd, 1) := by decide +kernel
theorem dX9_isSpelled_100 : decode cX9_isSpelled 100 = .ok (.baload, 1) := by decide +kernel
theorem dX9_isSpelled_101 : decode cX9_isSpelled 101 = .ok (.iload_n 2, 1) := by decide +kernel
theorem dX9_isSpelled_102 : decode cX9_isSpelled 102 = .ok (.bipush 108, 2) := by decide +kernel
theorem dX9_isSpelled_104 : decode cX9_isSpelled 104 = .ok (.if_icmp .ne 8, 3) := by decide +kernel
theorem dX9_isSpelled_107 : decode cX9_isSpelled 107 = .ok (.bipush 116, 2) := by decide +kernel
theorem dX9_isSpelled_109 : decode cX9_isSpelled 109 = .ok (.goto 5, 3) := by decide +kernel
theorem dX9_isSpelled_112 : decode cX9_isSpelled 112 = .ok (.bipush 121, 2) := by decide +kernel
theorem dX9_isSpelled_114 : decode cX9_isSpelled 114 = .ok (.if_icmp .ne 7, 3) := by decide +kernel
theorem dX9_isSpelled_117 : decode cX9_isSpelled 117 = .ok (.iconst 1, 1) := by decide +kernel
theorem dX9_isSpelled_118 : decode cX9_isSpelled 118 = .ok (.goto 4, 3) := by decide +kernel
theorem dX9_isSpelled_121 : decode cX9_isSpelled 121 = .ok (.iconst 0, 1) := by decide +kernel
theorem dX9_isSpelled_122 : decode cX9_isSpelled 122 = .ok (.ireturn, 1) := by decide +kernel
theorem iX9_isSpelled_9 : ∀ w ∈ wsX90, w ∈ wsX9_isSpelled := fun w h => List.mem_cons_of_mem _ (List.mem_append_right _ h)
theorem fX9_isSpelled_7 : FL mX9_isSpelled 7 9 1 := ⟨_, _, _, rfl, by decide, iX9_isSpelled_9, by decide +kernel⟩
theorem fX9_isSpelled_70 : FL mX9_isSpelled 70 9 8 := ⟨_, _, _, rfl, by decide, iX9_isSpelled_9, by decide +kernel⟩
theorem fX9_isSpelled_73 : FL mX9_isSpelled 73 9 9 := ⟨_, _, _, rfl, by decide, iX9_isSpelled_9, by decide +kernel⟩
abbrev mX9_word : mT := (yX9_word, RX9, cX9_word, 1, none, wsX9_word)
abbrev rX9_word : Room := { frames := 1, cells := 0, slots := 0, locals := 26 }
theorem dX9_word_0 : decode cX9_word 0 = .ok (.aload_n 0, 1) := by decide +kernel
theorem dX9_word_1 : decode cX9_word 1 = .ok (.iconst 5, 1) := by decide +kernel
theorem dX9_word_2 : decode cX9_word 2 = .ok (.putfield 76, 3) := by decide +kernel
theorem dX9_word_5 : decode cX9_word 5 = .ok (.aload_n 0, 1) := by decide +kernel
theorem dX9_word_6 : decode cX9_word 6 = .ok (.iconst 4, 1) := by decide +kernel
theorem dX9_word_7 : decode cX9_word 7 = .ok (.bipush 116, 2) := by decide +kernel
theorem dX9_word_9 : decode cX9_word 9 = .ok (.bipush 97, 2) := by decide +kernel
theorem dX9_word_11 : decode cX9_word 11 = .ok (.bipush 108, 2) := by decide +kernel
theorem dX9_word_13 : decode cX9_word 13 = .ok (.bipush 101, 2) := by decide +kernel
theorem dX9_word_15 : decode cX9_word 15 = .ok (.invokevirtual 79, 3) := by decide +kernel
theorem dX9_word_18 : decode cX9_word 18 = .ok (.ifCond .eq 16, 3) := by decide +kernel
theorem dX9_word_21 : decode cX9_word 21 = .ok (.aload_n 0, 1) := by decide +kernel
theorem dX9_word_22 : decode cX9_word 22 = .ok (.iconst 1, 1) := by decide +kernel
theorem dX9_word_23 : decode cX9_word 23 = .ok (.putfield 76, 3) := by decide +kernel
theorem dX9_word_26 : decode cX9_word 26 = .ok (.aload_n 0, 1) := by decide +kernel
theorem dX9_word_27 : decode cX9_word 27 = .ok (.iconst 0, 1) := by decide +kernel
theorem dX9_word_28 : decode cX9_word 28 = .ok (.putfield 83, 3) := by decide +kernel
theorem dX9_word_31 : decode cX9_word 31 = .ok (.goto 116, 3) := by decide +kernel
theorem dX9_word_34 : decode cX9_word 34 = .ok (.aload_n 0, 1) := by decide +kernel
theorem dX9_word_35 : decode cX9_word 35 = .ok (.iconst 4, 1) := by decide +kernel
theorem dX9_word_36 : decode cX9_word 36 = .ok (.bipush 108, 2) := by decide +kernel
theorem dX9_word_38 : decode cX9_word 38 = .ok (.bipush 111, 2) := by decide +kernel
theorem dX9_word_40 : decode cX9_word 40 = .ok (.bipush 111, 2) := by decide +kernel
theorem dX9_word_42 : decode cX9_word 42 = .ok (.bipush 107, 2) := by decide +kernel
theorem dX9_word_44 : decode cX9_word 44 = .ok (.invokevirtual 79, 3) := by decide +kernel
theorem dX9_word_47 : decode cX9_word 47 = .ok (.ifCond .eq 16, 3) := by decide +kernel
theorem dX9_word_50 : decode cX9_word 50 = .ok (.aload_n 0, 1) := by decide +kernel
theorem dX9_word_51 : decode cX9_word 51 = .ok (.iconst 1, 1) := by decide +kernel
theorem dX9_word_52 : decode cX9_word 52 = .ok (.putfield 76, 3) := by decide +kernel
theorem dX9_word_55 : decode cX9_word 55 = .ok (.aload_n 0, 1) := by decide +kernel
theorem dX9_word_56 : decode cX9_word 56 = .ok (.iconst 1, 1) := by decide +kernel
theorem dX9_word_57 : decode cX9_word 57 = .ok (.putfield 83, 3) := by decide +kernel
theorem dX9_word_60 : decode cX9_word 60 = .ok (.goto 87, 3) := by decide +kernel
theorem dX9_word_63 : decode cX9_word 63 = .ok (.aload_n 0, 1) := by decide +kernel
theorem dX9_word_64 : decode cX9_word 64 = .ok (.iconst 4, 1) := by decide +kernel
theorem dX9_word_65 : decode cX9_word 65 = .ok (.bipush 115, 2) := by decide +kernel
theorem dX9_word_67 : decode cX9_word 67 = .ok (.bipush 111, 2) := by decide +kernel
theorem dX9_word_69 : decode cX9_word 69 = .ok (.bipush 109, 2) := by decide +kernel
theorem dX9_word_71 : decode cX9_word 71 = .ok (.bipush 101, 2) := by decide +kernel
theorem dX9_word_73 : decode cX9_word 73 = .ok (.invokevirtual 79, 3) := by decide +kernel
theorem dX9_word_76 : decode cX9_word 76 = .ok (.ifCond .eq 16, 3) := by decide +kernel
theorem dX9_word_79 : decode cX9_word 79 = .ok (.aload_n 0, 1) := by decide +kernel
theorem dX9_word_80 : decode cX9_word 80 = .ok (.iconst 1, 1) := by decide +kernel
theorem dX9_word_81 : decode cX9_word 81 = .ok (.putfield 76, 3) := by decide +kernel
theorem dX9_word_84 : decode cX9_word 84 = .ok (.aload_n 0, 1) := by decide +kernel
theorem dX9_word_85 : decode cX9_word 85 = .ok (.iconst 2, 1) := by decide +kernel
theorem dX9_word_86 : decode cX9_word 86 = .ok (.putfield 83, 3) := by decide +kernel
theorem dX9_word_89 : decode cX9_word 89 = .ok (.goto 58, 3) := by decide +kernel
theorem dX9_word_92 : decode cX9_word 92 = .ok (.aload_n 0, 1) := by decide +kernel
theorem dX9_word_93 : decode cX9_word 93 = .ok (.iconst 5, 1) := by decide +kernel
theorem dX9_word_94 : decode cX9_word 94 = .ok (.bipush 108, 2) := by decide +kernel
theorem dX9_word_96 : decode cX9_word 96 = .ok (.bipush 105, 2) := by decide +kernel
theorem dX9_word_98 : decode cX9_word 98 = .ok (.bipush 103, 2) := by decide +kernel
theorem dX9_word_100 : decode cX9_word 100 = .ok (.bipush 104, 2) := by decide +kernel
theorem dX9_word_102 : decode cX9_word 102 = .ok (.invokevirtual 79, 3) := by decide +kernel
theorem dX9_word_105 : decode cX9_word 105 = .ok (.ifCond .eq 16, 3) := by decide +kernel
theorem dX9_word_108 : decode cX9_word 108 = .ok (.aload_n 0, 1) := by decide +kernel
theorem dX9_word_109 : decode cX9_word 109 = .ok (.iconst 2, 1) := by decide +kernel
theorem dX9_word_110 : decode cX9_word 110 = .ok (.putfield 76, 3) := by decide +kernel
theorem dX9_word_113 : decode cX9_word 113 = .ok (.aload_n 0, 1) := by decide +kernel
theorem dX9_word_114 : decode cX9_word 114 = .ok (.iconst 0, 1) := by decide +kernel
theorem dX9_word_115 : decode cX9_word 115 = .ok (.putfield 83, 3) := by decide +kernel
theorem dX9_word_118 : decode cX9_word 118 = .ok (.goto 29, 3) := by decide +kernel
theorem dX9_word_121 : decode cX9_word 121 = .ok (.aload_n 0, 1) := by decide +kernel
theorem dX9_word_122 : decode cX9_word 122 = .ok (.iconst 5, 1) := by decide +kernel
theorem dX9_word_123 : decode cX9_word 123 = .ok (.bipush 104, 2) := by decide +kernel
theorem dX9_word_125 : decode cX9_word 125 = .ok (.bipush 101, 2) := by decide +kernel
theorem dX9_word_127 : decode cX9_word 127 = .ok (.bipush 97, 2) := by decide +kernel
theorem dX9_word_129 : decode cX9_word 129 = .ok (.bipush 118, 2) := by decide +kernel
theorem dX9_word_131 : decode cX9_word 131 = .ok (.invokevirtual 79, 3) := by decide +kernel
theorem dX9_word_134 : decode cX9_word 134 = .ok (.ifCond .eq 13, 3) := by decide +kernel
theorem dX9_word_137 : decode cX9_word 137 = .ok (.aload_n 0, 1) := by decide +kernel
theorem dX9_word_138 : decode cX9_word 138 = .ok (.iconst 2, 1) := by decide +kernel
theorem dX9_word_139 : decode cX9_word 139 = .ok (.putfield 76, 3) := by decide +kernel
theorem dX9_word_142 : decode cX9_word 142 = .ok (.aload_n 0, 1) := by decide +kernel
theorem dX9_word_143 : decode cX9_word 143 = .ok (.iconst 1, 1) := by decide +kernel
theorem dX9_word_144 : decode cX9_word 144 = .ok (.putfield 83, 3) := by decide +kernel
theorem dX9_word_147 : decode cX9_word 147 = .ok (.return_, 1) := by decide +kernel
theorem iX9_word_9 : ∀ w ∈ wsX90, w ∈ wsX9_word := fun w h => List.mem_cons_of_mem _ (List.mem_append_right _ h)
theorem pX9_word_76 : FP mX9_word 76 9 10 .int false := ⟨_, _, _, tyX9, rfl, by decide, iX9_word_9, by decide +kernel, tyX9_ok, nmX9, rfl, rfl, fun z => absurd z (by decide)⟩
theorem pX9_word_83 : FP mX9_word 83 9 11 .int false := ⟨_, _, _, tyX9, rfl, by decide, iX9_word_9, by decide +kernel, tyX9_ok, nmX9, rfl, rfl, fun z => absurd z (by decide)⟩
set_option maxRecDepth 20000 in
theorem ggX9_word_X9_isSpelled : GoodIn wsX9_word wsX9_isSpelled := goodIn_r _ [7, 8, 9, 10, 11, 12, 13, 14, 15, 16, 17, 18, 19, 20, 21, 22, 23, 24, 25, 26, 27, 28, 29, 30, 31, 32, 33, 34, 35] (by decide +kernel) (by decide +kernel)
set_option maxRecDepth 20000 in
theorem gX9_word_X9_isSpelled : GoodIn wsX9_word (wsV RX9 79 RX9 yX9_isSpelled wsX9_isSpelled) := goodIn_app (goodIn_of _ (by decide +kernel)) ggX9_word_X9_isSpelled
theorem wX9_word_79 : CWV mX9_word 79 mX9_isSpelled 5 := ⟨gX9_word_X9_isSpelled, ⟨_, rfl⟩, rfl, by decide +kernel, by decide +kernel, by decide +kernel⟩
abbrev mX9_next : mT := (yX9_next, RX9, cX9_next, 2, none, wsX9_next)
abbrev rX9_next : Room := { frames := 2, cells := 0, slots := 0, locals := 46 }
theorem dX9_next_0 : decode cX9_next 0 = .ok (.aload_n 0, 1) := by decide +kernel
theorem dX9_next_1 : decode cX9_next 1 = .ok (.invokevirtual 86, 3) := by decide +kernel
theorem dX9_next_4 : decode cX9_next 4 = .ok (.bipush 32, 2) := by decide +kernel
theorem dX9_next_6 : decode cX9_next 6 = .ok (.if_icmp .ne 16, 3) := by decide +kernel
theorem dX9_next_9 : decode cX9_next 9 = .ok (.aload_n 0, 1) := by decide +kernel
theorem dX9_next_10 : decode cX9_next 10 = .ok (.dup, 1) := by decide +kernel
theorem dX9_next_11 : decode cX9_next 11 = .ok (.getfield 70, 3) := by decide +kernel
theorem dX9_next_14 : decode cX9_next 14 = .ok (.iconst 1, 1) := by decide +kernel
theorem dX9_next_15 : decode cX9_next 15 = .ok (.iadd, 1) := by decide +kernel
theorem dX9_next_16 : decode cX9_next 16 = .ok (.putfield 70, 3) := by decide +kernel
theorem dX9_next_19 : decode cX9_next 19 = .ok (.goto (-19), 3) := by decide +kernel
theorem dX9_next_22 : decode cX9_next 22 = .ok (.aload_n 0, 1) := by decide +kernel
theorem dX9_next_23 : decode cX9_next 23 = .ok (.aload_n 0, 1) := by decide +kernel
theorem dX9_next_24 : decode cX9_next 24 = .ok (.getfield 70, 3) := by decide +kernel
theorem dX9_next_27 : decode cX9_next 27 = .ok (.putfield 73, 3) := by decide +kernel
theorem dX9_next_30 : decode cX9_next 30 = .ok (.aload_n 0, 1) := by decide +kernel
theorem dX9_next_31 : decode cX9_next 31 = .ok (.iconst 0, 1) := by decide +kernel
theorem dX9_next_32 : decode cX9_next 32 = .ok (.putfield 83, 3) := by decide +kernel
theorem dX9_next_35 : decode cX9_next 35 = .ok (.aload_n 0, 1) := by decide +kernel
theorem dX9_next_36 : decode cX9_next 36 = .ok (.invokevirtual 86, 3) := by decide +kernel
theorem dX9_next_39 : decode cX9_next 39 = .ok (.istore_n 1, 1) := by decide +kernel
theorem dX9_next_40 : decode cX9_next 40 = .ok (.iload_n 1, 1) := by decide +kernel
theorem dX9_next_41 : decode cX9_next 41 = .ok (.ifCond .ge 11, 3) := by decide +kernel
theorem dX9_next_44 : decode cX9_next 44 = .ok (.aload_n 0, 1) := by decide +kernel
theorem dX9_next_45 : decode cX9_next 45 = .ok (.iconst 0, 1) := by decide +kernel
theorem dX9_next_46 : decode cX9_next 46 = .ok (.putfield 76, 3) := by decide +kernel
theorem dX9_next_49 : decode cX9_next 49 = .ok (.goto 198, 3) := by decide +kernel
theorem dX9_next_52 : decode cX9_next 52 = .ok (.iload_n 1, 1) := by decide +kernel
theorem dX9_next_53 : decode cX9_next 53 = .ok (.i2l, 1) := by decide +kernel
theorem dX9_next_54 : decode cX9_next 54 = .ok (.ldc2_w 90, 3) := by decide +kernel
theorem dX9_next_57 : decode cX9_next 57 = .ok (.ldc2_w 92, 3) := by decide +kernel
theorem dX9_next_60 : decode cX9_next 60 = .ok (.invokestatic 60, 3) := by decide +kernel
theorem dX9_next_63 : decode cX9_next 63 = .ok (.ifCond .eq 40, 3) := by decide +kernel
theorem dX9_next_66 : decode cX9_next 66 = .ok (.aload_n 0, 1) := by decide +kernel
theorem dX9_next_67 : decode cX9_next 67 = .ok (.invokevirtual 86, 3) := by decide +kernel
theorem dX9_next_70 : decode cX9_next 70 = .ok (.i2l, 1) := by decide +kernel
theorem dX9_next_71 : decode cX9_next 71 = .ok (.ldc2_w 90, 3) := by decide +kernel
theorem dX9_next_74 : decode cX9_next 74 = .ok (.ldc2_w 92, 3) := by decide +kernel
theorem dX9_next_77 : decode cX9_next 77 = .ok (.invokestatic 60, 3) := by decide +kernel
theorem dX9_next_80 : decode cX9_next 80 = .ok (.ifCond .eq 16, 3) := by decide +kernel
theorem dX9_next_83 : decode cX9_next 83 = .ok (.aload_n 0, 1) := by decide +kernel
theorem dX9_next_84 : decode cX9_next 84 = .ok (.dup, 1) := by decide +kernel
theorem dX9_next_85 : decode cX9_next 85 = .ok (.getfield 70, 3) := by decide +kernel
theorem dX9_next_88 : decode cX9_next 88 = .ok (.iconst 1, 1) := by decide +kernel
theorem dX9_next_89 : decode cX9_next 89 = .ok (.iadd, 1) := by decide +kernel
theorem dX9_next_90 : decode cX9_next 90 = .ok (.putfield 70, 3) := by decide +kernel
theorem dX9_next_93 : decode cX9_next 93 = .ok (.goto (-27), 3) := by decide +kernel
theorem dX9_next_96 : decode cX9_next 96 = .ok (.aload_n 0, 1) := by decide +kernel
theorem dX9_next_97 : decode cX9_next 97 = .ok (.invokevirtual 94, 3) := by decide +kernel
theorem dX9_next_100 : decode cX9_next 100 = .ok (.goto 147, 3) := by decide +kernel
theorem dX9_next_103 : decode cX9_next 103 = .ok (.iload_n 1, 1) := by decide +kernel
theorem dX9_next_104 : decode cX9_next 104 = .ok (.i2l, 1) := by decide +kernel
theorem dX9_next_105 : decode cX9_next 105 = .ok (.ldc2_w 97, 3) := by decide +kernel
theorem dX9_next_108 : decode cX9_next 108 = .ok (.ldc2_w 99, 3) := by decide +kernel
theorem dX9_next_111 : decode cX9_next 111 = .ok (.invokestatic 60, 3) := by decide +kernel
theorem dX9_next_114 : decode cX9_next 114 = .ok (.ifCond .eq 108, 3) := by decide +kernel
theorem dX9_next_117 : decode cX9_next 117 = .ok (.aload_n 0, 1) := by decide +kernel
theorem dX9_next_118 : decode cX9_next 118 = .ok (.invokevirtual 86, 3) := by decide +kernel
theorem dX9_next_121 : decode cX9_next 121 = .ok (.i2l, 1) := by decide +kernel
theorem dX9_next_122 : decode cX9_next 122 = .ok (.ldc2_w 97, 3) := by decide +kernel
theorem dX9_next_125 : decode cX9_next 125 = .ok (.ldc2_w 99, 3) := by decide +kernel
theorem dX9_next_128 : decode cX9_next 128 = .ok (.invokestatic 60, 3) := by decide +kernel
theorem dX9_next_131 : decode cX9_next 131 = .ok (.ifCond .eq 51, 3) := by decide +kernel
theorem dX9_next_134 : decode cX9_next 134 = .ok (.aload_n 0, 1) := by decide +kernel
theorem dX9_next_135 : decode cX9_next 135 = .ok (.aload_n 0, 1) := by decide +kernel
theorem dX9_next_136 : decode cX9_next 136 = .ok (.getfield 83, 3) := by decide +kernel
theorem dX9_next_139 : decode cX9_next 139 = .ok (.bipush 99, 2) := by decide +kernel
theorem dX9_next_141 : decode cX9_next 141 = .ok (.if_icmp .le 10, 3) := by decide +kernel
theorem dX9_next_144 : decode cX9_next 144 = .ok (.aload_n 0, 1) := by decide +kernel
theorem dX9_next_145 : decode cX9_next 145 = .ok (.getfield 83, 3) := by decide +kernel
theorem dX9_next_148 : decode cX9_next 148 = .ok (.goto 18, 3) := by decide +kernel
theorem dX9_next_151 : decode cX9_next 151 = .ok (.bipush 10, 2) := by decide +kernel
theorem dX9_next_153 : decode cX9_next 153 = .ok (.aload_n 0, 1) := by decide +kernel
theorem dX9_next_154 : decode cX9_next 154 = .ok (.getfield 83, 3) := by decide +kernel
theorem dX9_next_157 : decode cX9_next 157 = .ok (.imul, 1) := by decide +kernel
theorem dX9_next_158 : decode cX9_next 158 = .ok (.aload_n 0, 1) := by decide +kernel
theorem dX9_next_159 : decode cX9_next 159 = .ok (.invokevirtual 86, 3) := by decide +kernel
theorem dX9_next_162 : decode cX9_next 162 = .ok (.iadd, 1) := by decide +kernel
theorem dX9_next_163 : decode cX9_next 163 = .ok (.bipush 48, 2) := by decide +kernel
theorem dX9_next_165 : decode cX9_next 165 = .ok (.isub, 1) := by decide +kernel
theorem dX9_next_166 : decode cX9_next 166 = .ok (.putfield 83, 3) := by decide +kernel
theorem dX9_next_169 : decode cX9_next 169 = .ok (.aload_n 0, 1) := by decide +kernel
theorem dX9_next_170 : decode cX9_next 170 = .ok (.dup, 1) := by decide +kernel
theorem dX9_next_171 : decode cX9_next 171 = .ok (.getfield 70, 3) := by decide +kernel
theorem dX9_next_174 : decode cX9_next 174 = .ok (.iconst 1, 1) := by decide +kernel
theorem dX9_next_175 : decode cX9_next 175 = .ok (.iadd, 1) := by decide +kernel
theorem dX9_next_176 : decode cX9_next 176 = .ok (.putfield 70, 3) := by decide +kernel
theorem dX9_next_179 : decode cX9_next 179 = .ok (.goto (-62), 3) := by decide +kernel
theorem dX9_next_182 : decode cX9_next 182 = .ok (.aload_n 0, 1) := by decide +kernel
theorem dX9_next_183 : decode cX9_next 183 = .ok (.aload_n 0, 1) := by decide +kernel
theorem dX9_next_184 : decode cX9_next 184 = .ok (.getfield 83, 3) := by decide +kernel
theorem dX9_next_187 : decode cX9_next 187 = .ok (.bipush 99, 2) := by decide +kernel
theorem dX9_next_189 : decode cX9_next 189 = .ok (.if_icmp .gt 22, 3) := by decide +kernel
theorem dX9_next_192 : decode cX9_next 192 = .ok (.iload_n 1, 1) := by decide +kernel
theorem dX9_next_193 : decode cX9_next 193 = .ok (.bipush 48, 2) := by decide +kernel
theorem dX9_next_195 : decode cX9_next 195 = .ok (.if_icmp .ne 20, 3) := by decide +kernel
theorem dX9_next_198 : decode cX9_next 198 = .ok (.aload_n 0, 1) := by decide +kernel
theorem dX9_next_199 : decode cX9_next 199 = .ok (.getfield 70, 3) := by decide +kernel
theorem dX9_next_202 : decode cX9_next 202 = .ok (.aload_n 0, 1) := by decide +kernel
theorem dX9_next_203 : decode cX9_next 203 = .ok (.getfield 73, 3) := by decide +kernel
theorem dX9_next_206 : decode cX9_next 206 = .ok (.isub, 1) := by decide +kernel
theorem dX9_next_207 : decode cX9_next 207 = .ok (.iconst 1, 1) := by decide +kernel
theorem dX9_next_208 : decode cX9_next 208 = .ok (.if_icmp .le 7, 3) := by decide +kernel
theorem dX9_next_211 : decode cX9_next 211 = .ok (.iconst 5, 1) := by decide +kernel
theorem dX9_next_212 : decode cX9_next 212 = .ok (.goto 4, 3) := by decide +kernel
theorem dX9_next_215 : decode cX9_next 215 = .ok (.iconst 3, 1) := by decide +kernel
theorem dX9_next_216 : decode cX9_next 216 = .ok (.putfield 76, 3) := by decide +kernel
theorem dX9_next_219 : decode cX9_next 219 = .ok (.goto 28, 3) := by decide +kernel
theorem dX9_next_222 : decode cX9_next 222 = .ok (.aload_n 0, 1) := by decide +kernel
theorem dX9_next_223 : decode cX9_next 223 = .ok (.dup, 1) := by decide +kernel
theorem dX9_next_224 : decode cX9_next 224 = .ok (.getfield 70, 3) := by decide +kernel
theorem dX9_next_227 : decode cX9_next 227 = .ok (.iconst 1, 1) := by decide +kernel
theorem dX9_next_228 : decode cX9_next 228 = .ok (.iadd, 1) := by decide +kernel
theorem dX9_next_229 : decode cX9_next 229 = .ok (.putfield 70, 3) := by decide +kernel
theorem dX9_next_232 : decode cX9_next 232 = .ok (.aload_n 0, 1) := by decide +kernel
theorem dX9_next_233 : decode cX9_next 233 = .ok (.iload_n 1, 1) := by decide +kernel
theorem dX9_next_234 : decode cX9_next 234 = .ok (.bipush 59, 2) := by decide +kernel
theorem dX9_next_236 : decode cX9_next 236 = .ok (.if_icmp .ne 7, 3) := by decide +kernel
theorem dX9_next_239 : decode cX9_next 239 = .ok (.iconst 4, 1) := by decide +kernel
theorem dX9_next_240 : decode cX9_next 240 = .ok (.goto 4, 3) := by decide +kernel
theorem dX9_next_243 : decode cX9_next 243 = .ok (.iconst 5, 1) := by decide +kernel
theorem dX9_next_244 : decode cX9_next 244 = .ok (.putfield 76, 3) := by decide +kernel
theorem dX9_next_247 : decode cX9_next 247 = .ok (.return_, 1) := by decide +kernel
theorem iX9_next_9 : ∀ w ∈ wsX90, w ∈ wsX9_next := fun w h => List.mem_cons_of_mem _ (List.mem_append_right _ h)
theorem fX9_next_70 : FL mX9_next 70 9 8 := ⟨_, _, _, rfl, by decide, iX9_next_9, by decide +kernel⟩
theorem pX9_next_70 : FP mX9_next 70 9 8 .int false := ⟨_, _, _, tyX9, rfl, by decide, iX9_next_9, by decide +kernel, tyX9_ok, nmX9, rfl, rfl, fun z => absurd z (by decide)⟩
theorem fX9_next_73 : FL mX9_next 73 9 9 := ⟨_, _, _, rfl, by decide, iX9_next_9, by decide +kernel⟩
theorem pX9_next_73 : FP mX9_next 73 9 9 .int false := ⟨_, _, _, tyX9, rfl, by decide, iX9_next_9, by decide +kernel, tyX9_ok, nmX9, rfl, rfl, fun z => absurd z (by decide)⟩
theorem pX9_next_76 : FP mX9_next 76 9 10 .int false := ⟨_, _, _, tyX9, rfl, by decide, iX9_next_9, by decide +kernel, tyX9_ok, nmX9, rfl, rfl, fun z => absurd z (by decide)⟩
theorem fX9_next_83 : FL mX9_next 83 9 11 := ⟨_, _, _, rfl, by decide, iX9_next_9, by decide +kernel⟩
theorem pX9_next_83 : FP mX9_next 83 9 11 .int false := ⟨_, _, _, tyX9, rfl, by decide, iX9_next_9, by decide +kernel, tyX9_ok, nmX9, rfl, rfl, fun z => absurd z (by decide)⟩
set_option maxRecDepth 20000 in
theorem ggX9_next_X9_in : GoodIn wsX9_next wsX9_in := goodIn_r _ [18] (by decide +kernel) (by decide +kernel)
set_option maxRecDepth 20000 in
theorem gX9_next_X9_in : GoodIn wsX9_next (va_wsS RX9 60 yX9_in wsX9_in) := goodIn_app (goodIn_of _ (by decide +kernel)) ggX9_next_X9_in
theorem wX9_next_60 : CWS mX9_next 60 mX9_in 3 := ⟨gX9_next_X9_in, ⟨_, rfl⟩, by decide +kernel, by decide +kernel, by decide +kernel⟩
set_option maxRecDepth 20000 in
theorem ggX9_next_X9_here : GoodIn wsX9_next wsX9_here := goodIn_r _ [13, 1, 14, 15, 27, 28, 29, 30, 31, 32, 33, 34, 35, 36, 37, 38, 39, 40, 41, 42, 43, 44, 45, 46, 47, 48, 49, 50, 51] (by decide +kernel) (by decide +kernel)
set_option maxRecDepth 20000 in
theorem gX9_next_X9_here : GoodIn wsX9_next (wsV RX9 86 RX9 yX9_here wsX9_here) := goodIn_app (goodIn_of _ (by decide +kernel)) ggX9_next_X9_here
theorem wX9_next_86 : CWV mX9_next 86 mX9_here 0 := ⟨gX9_next_X9_here, ⟨_, rfl⟩, rfl, by decide +kernel, by decide +kernel, by decide +kernel⟩
set_option maxRecDepth 20000 in
theorem ggX9_next_X9_word : GoodIn wsX9_next wsX9_word := goodIn_r _ [22, 4, 3, 23, 24, 25, 12, 26, 1, 2, 15, 27, 28, 29, 30, 31, 32, 33, 34, 35, 36, 37, 38, 39, 40, 41, 42, 43, 44, 45, 46, 47, 48, 49, 50, 51] (by decide +kernel) (by decide +kernel)
set_option maxRecDepth 20000 in
theorem gX9_next_X9_word : GoodIn wsX9_next (wsV RX9 94 RX9 yX9_word wsX9_word) := goodIn_app (goodIn_of _ (by decide +kernel)) ggX9_next_X9_word
theorem wX9_next_94 : CWV mX9_next 94 mX9_word 0 := ⟨gX9_next_X9_word, ⟨_, rfl⟩, rfl, by decide +kernel, by decide +kernel, by decide +kernel⟩
abbrev mX9_due : mT := (yX9_due, RX9, cX9_due, 3, (some .int), wsX9_due)
abbrev rX9_due : Room := { frames := 3, cells := 0, slots := 0, locals := 67 }
theorem dX9_due_0 : decode cX9_due 0 = .ok (.aload_n 0, 1) := by decide +kernel
theorem dX9_due_1 : decode cX9_due 1 = .ok (.getfield 83, 3) := by decide +kernel
theorem dX9_due_4 : decode cX9_due 4 = .ok (.istore_n 2, 1) := by decide +kernel
theorem dX9_due_5 : decode cX9_due 5 = .ok (.aload_n 0, 1) := by decide +kernel
theorem dX9_due_6 : decode cX9_due 6 = .ok (.getfield 101, 3) := by decide +kernel
theorem dX9_due_9 : decode cX9_due 9 = .ok (.bipush (-9), 2) := by decide +kernel
theorem dX9_due_11 : decode cX9_due 11 = .ok (.if_icmp .ne 22, 3) := by decide +kernel
theorem dX9_due_14 : decode cX9_due 14 = .ok (.iload_n 1, 1) := by decide +kernel
theorem dX9_due_15 : decode cX9_due 15 = .ok (.ifCond .eq 10, 3) := by decide +kernel
theorem dX9_due_18 : decode cX9_due 18 = .ok (.aload_n 0, 1) := by decide +kernel
theorem dX9_due_19 : decode cX9_due 19 = .ok (.invokevirtual 104, 3) := by decide +kernel
theorem dX9_due_22 : decode cX9_due 22 = .ok (.goto 11, 3) := by decide +kernel
theorem dX9_due_25 : decode cX9_due 25 = .ok (.aload_n 0, 1) := by decide +kernel
theorem dX9_due_26 : decode cX9_due 26 = .ok (.aload_n 0, 1) := by decide +kernel
theorem dX9_due_27 : decode cX9_due 27 = .ok (.getfield 73, 3) := by decide +kernel
theorem dX9_due_30 : decode cX9_due 30 = .ok (.putfield 101, 3) := by decide +kernel
theorem dX9_due_33 : decode cX9_due 33 = .ok (.iload_n 2, 1) := by decide +kernel
theorem dX9_due_34 : decode cX9_due 34 = .ok (.ireturn, 1) := by decide +kernel
theorem iX9_due_9 : ∀ w ∈ wsX90, w ∈ wsX9_due := fun w h => List.mem_cons_of_mem _ (List.mem_append_right _ h)
theorem fX9_due_73 : FL mX9_due 73 9 9 := ⟨_, _, _, rfl, by decide, iX9_due_9, by decide +kernel⟩
theorem fX9_due_83 : FL mX9_due 83 9 11 := ⟨_, _, _, rfl, by decide, iX9_due_9, by decide +kernel⟩
theorem fX9_due_101 : FL mX9_due 101 9 12 := ⟨_, _, _, rfl, by decide, iX9_due_9, by decide +kernel⟩
theorem pX9_due_101 : FP mX9_due 101 9 12 .int false := ⟨_, _, _, tyX9, rfl, by decide, iX9_due_9, by decide +kernel, tyX9_ok, nmX9, rfl, rfl, fun z => absurd z (by decide)⟩
set_option maxRecDepth 20000 in
theorem ggX9_due_X9_next : GoodIn wsX9_due wsX9_next := goodIn_r _ [8, 9, 3, 1, 10, 11, 12, 13, 14, 15, 16, 17, 7, 18, 19, 20, 21, 22, 23, 24, 25, 26, 27, 28, 29, 30, 31, 32, 33, 34, 35, 36, 37, 38, 39, 40, 41, 42, 43, 44, 45, 46, 47, 48, 49, 50, 51, 52, 53, 54, 55, 56] (by decide +kernel) (by decide +kernel)
set_option maxRecDepth 20000 in
theorem gX9_due_X9_next : GoodIn wsX9_due (wsV RX9 104 RX9 yX9_next wsX9_next) := goodIn_app (goodIn_of _ (by decide +kernel)) ggX9_due_X9_next
theorem wX9_due_104 : CWV mX9_due 104 mX9_next 0 := ⟨gX9_due_X9_next, ⟨_, rfl⟩, rfl, by decide +kernel, by decide +kernel, by decide +kernel⟩
abbrev mX9_town : mT := (yX9_town, RX9, cX9_town, 3, (some .int), wsX9_town)
abbrev rX9_town : Room := { frames := 4, cells := 0, slots := 0, locals := 89 }
theorem dX9_town_0 : decode cX9_town 0 = .ok (.aload_n 0, 1) := by decide +kernel
theorem dX9_town_1 : decode cX9_town 1 = .ok (.iconst 0, 1) := by decide +kernel
theorem dX9_town_2 : decode cX9_town 2 = .ok (.putfield 70, 3) := by decide +kernel
theorem dX9_town_5 : decode cX9_town 5 = .ok (.aload_n 0, 1) := by decide +kernel
theorem dX9_town_6 : decode cX9_town 6 = .ok (.bipush (-9), 2) := by decide +kernel
theorem dX9_town_8 : decode cX9_town 8 = .ok (.putfield 101, 3) := by decide +kernel
theorem dX9_town_11 : decode cX9_town 11 = .ok (.iconst 0, 1) := by decide +kernel
theorem dX9_town_12 : decode cX9_town 12 = .ok (.istore_n 1, 1) := by decide +kernel
theorem dX9_town_13 : decode cX9_town 13 = .ok (.aload_n 0, 1) := by decide +kernel
theorem dX9_town_14 : decode cX9_town 14 = .ok (.invokevirtual 104, 3) := by decide +kernel
theorem dX9_town_17 : decode cX9_town 17 = .ok (.aload_n 0, 1) := by decide +kernel
theorem dX9_town_18 : decode cX9_town 18 = .ok (.getfield 101, 3) := by decide +kernel
theorem dX9_town_21 : decode cX9_town 21 = .ok (.bipush (-9), 2) := by decide +kernel
theorem dX9_town_23 : decode cX9_town 23 = .ok (.if_icmp .ne 188, 3) := by decide +kernel
theorem dX9_town_26 : decode cX9_town 26 = .ok (.aload_n 0, 1) := by decide +kernel
theorem dX9_town_27 : decode cX9_town 27 = .ok (.getfield 76, 3) := by decide +kernel
theorem dX9_town_30 : decode cX9_town 30 = .ok (.ifCond .eq 181, 3) := by decide +kernel
theorem dX9_town_33 : decode cX9_town 33 = .ok (.bipush 8, 2) := by decide +kernel
theorem dX9_town_35 : decode cX9_town 35 = .ok (.iload_n 1, 1) := by decide +kernel
theorem dX9_town_36 : decode cX9_town 36 = .ok (.bipush 8, 2) := by decide +kernel
theorem dX9_town_38 : decode cX9_town 38 = .ok (.if_icmp .ge 7, 3) := by decide +kernel
theorem dX9_town_41 : decode cX9_town 41 = .ok (.iload_n 1, 1) := by decide +kernel
theorem dX9_town_42 : decode cX9_town 42 = .ok (.goto 4, 3) := by decide +kernel
theorem dX9_town_45 : decode cX9_town 45 = .ok (.iconst 0, 1) := by decide +kernel
theorem dX9_town_46 : decode cX9_town 46 = .ok (.iadd, 1) := by decide +kernel
theorem dX9_town_47 : decode cX9_town 47 = .ok (.istore_n 2, 1) := by decide +kernel
theorem dX9_town_48 : decode cX9_town 48 = .ok (.aload_n 0, 1) := by decide +kernel
theorem dX9_town_49 : decode cX9_town 49 = .ok (.getfield 13, 3) := by decide +kernel
theorem dX9_town_52 : decode cX9_town 52 = .ok (.iload_n 2, 1) := by decide +kernel
theorem dX9_town_53 : decode cX9_town 53 = .ok (.aload_n 0, 1) := by decide +kernel
theorem dX9_town_54 : decode cX9_town 54 = .ok (.aload_n 0, 1) := by decide +kernel
theorem dX9_town_55 : decode cX9_town 55 = .ok (.getfield 76, 3) := by decide +kernel
theorem dX9_town_58 : decode cX9_town 58 = .ok (.iconst 1, 1) := by decide +kernel
theorem dX9_town_59 : decode cX9_town 59 = .ok (.if_icmp .ne 13, 3) := by decide +kernel
theorem dX9_town_62 : decode cX9_town 62 = .ok (.iload_n 1, 1) := by decide +kernel
theorem dX9_town_63 : decode cX9_town 63 = .ok (.bipush 8, 2) := by decide +kernel
theorem dX9_town_65 : decode cX9_town 65 = .ok (.if_icmp .ge 7, 3) := by decide +kernel
theorem dX9_town_68 : decode cX9_town 68 = .ok (.iconst 1, 1) := by decide +kernel
theorem dX9_town_69 : decode cX9_town 69 = .ok (.goto 4, 3) := by decide +kernel
theorem dX9_town_72 : decode cX9_town 72 = .ok (.iconst 0, 1) := by decide +kernel
theorem dX9_town_73 : decode cX9_town 73 = .ok (.invokevirtual 107, 3) := by decide +kernel
theorem dX9_town_76 : decode cX9_town 76 = .ok (.iastore, 1) := by decide +kernel
theorem dX9_town_77 : decode cX9_town 77 = .ok (.aload_n 0, 1) := by decide +kernel
theorem dX9_town_78 : decode cX9_town 78 = .ok (.getfield 17, 3) := by decide +kernel
theorem dX9_town_81 : decode cX9_town 81 = .ok (.iload_n 2, 1) := by decide +kernel
theorem dX9_town_82 : decode cX9_town 82 = .ok (.aload_n 0, 1) := by decide +kernel
theorem dX9_town_83 : decode cX9_town 83 = .ok (.getfield 101, 3) := by decide +kernel
theorem dX9_town_86 : decode cX9_town 86 = .ok (.bipush (-9), 2) := by decide +kernel
theorem dX9_town_88 : decode cX9_town 88 = .ok (.if_icmp .ne 42, 3) := by decide +kernel
theorem dX9_town_91 : decode cX9_town 91 = .ok (.aload_n 0, 1) := by decide +kernel
theorem dX9_town_92 : decode cX9_town 92 = .ok (.getfield 13, 3) := by decide +kernel
theorem dX9_town_95 : decode cX9_town 95 = .ok (.iload_n 2, 1) := by decide +kernel
theorem dX9_town_96 : decode cX9_town 96 = .ok (.iaload, 1) := by decide +kernel
theorem dX9_town_97 : decode cX9_town 97 = .ok (.iconst 2, 1) := by decide +kernel
theorem dX9_town_98 : decode cX9_town 98 = .ok (.if_icmp .ne 32, 3) := by decide +kernel
theorem dX9_town_101 : decode cX9_town 101 = .ok (.aload_n 0, 1) := by decide +kernel
theorem dX9_town_102 : decode cX9_town 102 = .ok (.aload_n 0, 1) := by decide +kernel
theorem dX9_town_103 : decode cX9_town 103 = .ok (.getfield 76, 3) := by decide +kernel
theorem dX9_town_106 : decode cX9_town 106 = .ok (.iconst 3, 1) := by decide +kernel
theorem dX9_town_107 : decode cX9_town 107 = .ok (.if_icmp .ne 16, 3) := by decide +kernel
theorem dX9_town_110 : decode cX9_town 110 = .ok (.aload_n 0, 1) := by decide +kernel
theorem dX9_town_111 : decode cX9_town 111 = .ok (.getfield 83, 3) := by decide +kernel
theorem dX9_town_114 : decode cX9_town 114 = .ok (.bipush 10, 2) := by decide +kernel
theorem dX9_town_116 : decode cX9_town 116 = .ok (.if_icmp .gt 7, 3) := by decide +kernel
theorem dX9_town_119 : decode cX9_town 119 = .ok (.iconst 1, 1) := by decide +kernel
theorem dX9_town_120 : decode cX9_town 120 = .ok (.goto 4, 3) := by decide +kernel
theorem dX9_town_123 : decode cX9_town 123 = .ok (.iconst 0, 1) := by decide +kernel
theorem dX9_town_124 : decode cX9_town 124 = .ok (.invokevirtual 107, 3) := by decide +kernel
theorem dX9_town_127 : decode cX9_town 127 = .ok (.goto 4, 3) := by decide +kernel
theorem dX9_town_130 : decode cX9_town 130 = .ok (.iconst 0, 1) := by decide +kernel
theorem dX9_town_131 : decode cX9_town 131 = .ok (.iastore, 1) := by decide +kernel
theorem dX9_town_132 : decode cX9_town 132 = .ok (.aload_n 0, 1) := by decide +kernel
theorem dX9_town_133 : decode cX9_town 133 = .ok (.getfield 20, 3) := by decide +kernel
theorem dX9_town_136 : decode cX9_town 136 = .ok (.iload_n 2, 1) := by decide +kernel
theorem dX9_town_137 : decode cX9_town 137 = .ok (.aload_n 0, 1) := by decide +kernel
theorem dX9_town_138 : decode cX9_town 138 = .ok (.aload_n 0, 1) := by decide +kernel
theorem dX9_town_139 : decode cX9_town 139 = .ok (.getfield 76, 3) := by decide +kernel
theorem dX9_town_142 : decode cX9_town 142 = .ok (.iconst 2, 1) := by decide +kernel
theorem dX9_town_143 : decode cX9_town 143 = .ok (.if_icmp .ne 7, 3) := by decide +kernel
theorem dX9_town_146 : decode cX9_town 146 = .ok (.iconst 1, 1) := by decide +kernel
theorem dX9_town_147 : decode cX9_town 147 = .ok (.goto 4, 3) := by decide +kernel
theorem dX9_town_150 : decode cX9_town 150 = .ok (.iconst 0, 1) := by decide +kernel
theorem dX9_town_151 : decode cX9_town 151 = .ok (.invokevirtual 107, 3) := by decide +kernel
theorem dX9_town_154 : decode cX9_town 154 = .ok (.iastore, 1) := by decide +kernel
theorem dX9_town_155 : decode cX9_town 155 = .ok (.aload_n 0, 1) := by decide +kernel
theorem dX9_town_156 : decode cX9_town 156 = .ok (.getfield 23, 3) := by decide +kernel
theorem dX9_town_159 : decode cX9_town 159 = .ok (.iload_n 2, 1) := by decide +kernel
theorem dX9_town_160 : decode cX9_town 160 = .ok (.aload_n 0, 1) := by decide +kernel
theorem dX9_town_161 : decode cX9_town 161 = .ok (.aload_n 0, 1) := by decide +kernel
theorem dX9_town_162 : decode cX9_town 162 = .ok (.getfield 76, 3) := by decide +kernel
theorem dX9_town_165 : decode cX9_town 165 = .ok (.iconst 3, 1) := by decide +kernel
theorem dX9_town_166 : decode cX9_town 166 = .ok (.if_icmp .ne 16, 3) := by decide +kernel
theorem dX9_town_169 : decode cX9_town 169 = .ok (.aload_n 0, 1) := by decide +kernel
theorem dX9_town_170 : decode cX9_town 170 = .ok (.getfield 83, 3) := by decide +kernel
theorem dX9_town_173 : decode cX9_town 173 = .ok (.bipush 8, 2) := by decide +kernel
theorem dX9_town_175 : decode cX9_town 175 = .ok (.if_icmp .gt 7, 3) := by decide +kernel
theorem dX9_town_178 : decode cX9_town 178 = .ok (.iconst 1, 1) := by decide +kernel
theorem dX9_town_179 : decode cX9_town 179 = .ok (.goto 4, 3) := by decide +kernel
theorem dX9_town_182 : decode cX9_town 182 = .ok (.iconst 0, 1) := by decide +kernel
theorem dX9_town_183 : decode cX9_town 183 = .ok (.invokevirtual 107, 3) := by decide +kernel
theorem dX9_town_186 : decode cX9_town 186 = .ok (.iastore, 1) := by decide +kernel
theorem dX9_town_187 : decode cX9_town 187 = .ok (.aload_n 0, 1) := by decide +kernel
theorem dX9_town_188 : decode cX9_town 188 = .ok (.aload_n 0, 1) := by decide +kernel
theorem dX9_town_189 : decode cX9_town 189 = .ok (.getfield 76, 3) := by decide +kernel
theorem dX9_town_192 : decode cX9_town 192 = .ok (.iconst 4, 1) := by decide +kernel
theorem dX9_town_193 : decode cX9_town 193 = .ok (.if_icmp .ne 7, 3) := by decide +kernel
theorem dX9_town_196 : decode cX9_town 196 = .ok (.iconst 1, 1) := by decide +kernel
theorem dX9_town_197 : decode cX9_town 197 = .ok (.goto 4, 3) := by decide +kernel
theorem dX9_town_200 : decode cX9_town 200 = .ok (.iconst 0, 1) := by decide +kernel
theorem dX9_town_201 : decode cX9_town 201 = .ok (.invokevirtual 107, 3) := by decide +kernel
theorem dX9_town_204 : decode cX9_town 204 = .ok (.pop, 1) := by decide +kernel
theorem dX9_town_205 : decode cX9_town 205 = .ok (.iinc 1 1, 3) := by decide +kernel
theorem dX9_town_208 : decode cX9_town 208 = .ok (.goto (-191), 3) := by decide +kernel
theorem dX9_town_211 : decode cX9_town 211 = .ok (.aload_n 0, 1) := by decide +kernel
theorem dX9_town_212 : decode cX9_town 212 = .ok (.getfield 101, 3) := by decide +kernel
theorem dX9_town_215 : decode cX9_town 215 = .ok (.bipush (-9), 2) := by decide +kernel
theorem dX9_town_217 : decode cX9_town 217 = .ok (.if_icmp .eq 11, 3) := by decide +kernel
theorem dX9_town_220 : decode cX9_town 220 = .ok (.bipush (-10), 2) := by decide +kernel
theorem dX9_town_222 : decode cX9_town 222 = .ok (.aload_n 0, 1) := by decide +kernel
theorem dX9_town_223 : decode cX9_town 223 = .ok (.getfield 101, 3) := by decide +kernel
theorem dX9_town_226 : decode cX9_town 226 = .ok (.isub, 1) := by decide +kernel
theorem dX9_town_227 : decode cX9_town 227 = .ok (.ireturn, 1) := by decide +kernel
theorem dX9_town_228 : decode cX9_town 228 = .ok (.iconst 0, 1) := by decide +kernel
theorem dX9_town_229 : decode cX9_town 229 = .ok (.istore_n 2, 1) := by decide +kernel
theorem dX9_town_230 : decode cX9_town 230 = .ok (.iload_n 2, 1) := by decide +kernel
theorem dX9_town_231 : decode cX9_town 231 = .ok (.iload_n 1, 1) := by decide +kernel
theorem dX9_town_232 : decode cX9_town 232 = .ok (.if_icmp .ge 69, 3) := by decide +kernel
theorem dX9_town_235 : decode cX9_town 235 = .ok (.aload_n 0, 1) := by decide +kernel
theorem dX9_town_236 : decode cX9_town 236 = .ok (.getfield 13, 3) := by decide +kernel
theorem dX9_town_239 : decode cX9_town 239 = .ok (.iload_n 2, 1) := by decide +kernel
theorem dX9_town_240 : decode cX9_town 240 = .ok (.aload_n 0, 1) := by decide +kernel
theorem dX9_town_241 : decode cX9_town 241 = .ok (.getfield 13, 3) := by decide +kernel
theorem dX9_town_244 : decode cX9_town 244 = .ok (.bipush 8, 2) := by decide +kernel
theorem dX9_town_246 : decode cX9_town 246 = .ok (.iload_n 2, 1) := by decide +kernel
theorem dX9_town_247 : decode cX9_town 247 = .ok (.iadd, 1) := by decide +kernel
theorem dX9_town_248 : decode cX9_town 248 = .ok (.iaload, 1) := by decide +kernel
theorem dX9_town_249 : decode cX9_town 249 = .ok (.iastore, 1) := by decide +kernel
theorem dX9_town_250 : decode cX9_town 250 = .ok (.aload_n 0, 1) := by decide +kernel
theorem dX9_town_251 : decode cX9_town 251 = .ok (.getfield 17, 3) := by decide +kernel
theorem dX9_town_254 : decode cX9_town 254 = .ok (.iload_n 2, 1) := by decide +kernel
theorem dX9_town_255 : decode cX9_town 255 = .ok (.aload_n 0, 1) := by decide +kernel
theorem dX9_town_256 : decode cX9_town 256 = .ok (.getfield 17, 3) := by decide +kernel
theorem dX9_town_259 : decode cX9_town 259 = .ok (.bipush 8, 2) := by decide +kernel
theorem dX9_town_261 : decode cX9_town 261 = .ok (.iload_n 2, 1) := by decide +kernel
theorem dX9_town_262 : decode cX9_town 262 = .ok (.iadd, 1) := by decide +kernel
theorem dX9_town_263 : decode cX9_town 263 = .ok (.iaload, 1) := by decide +kernel
theorem dX9_town_264 : decode cX9_town 264 = .ok (.iastore, 1) := by decide +kernel
theorem dX9_town_265 : decode cX9_town 265 = .ok (.aload_n 0, 1) := by decide +kernel
theorem dX9_town_266 : decode cX9_town 266 = .ok (.getfield 20, 3) := by decide +kernel
theorem dX9_town_269 : decode cX9_town 269 = .ok (.iload_n 2, 1) := by decide +kernel
theorem dX9_town_270 : decode cX9_town 270 = .ok (.aload_n 0, 1) := by decide +kernel
theorem dX9_town_271 : decode cX9_town 271 = .ok (.getfield 20, 3) := by decide +kernel
theorem dX9_town_274 : decode cX9_town 274 = .ok (.bipush 8, 2) := by decide +kernel
theorem dX9_town_276 : decode cX9_town 276 = .ok (.iload_n 2, 1) := by decide +kernel
theorem dX9_town_277 : decode cX9_town 277 = .ok (.iadd, 1) := by decide +kernel
theorem dX9_town_278 : decode cX9_town 278 = .ok (.iaload, 1) := by decide +kernel
theorem dX9_town_279 : decode cX9_town 279 = .ok (.iastore, 1) := by decide +kernel
theorem dX9_town_280 : decode cX9_town 280 = .ok (.aload_n 0, 1) := by decide +kernel
theorem dX9_town_281 : decode cX9_town 281 = .ok (.getfield 23, 3) := by decide +kernel
theorem dX9_town_284 : decode cX9_town 284 = .ok (.iload_n 2, 1) := by decide +kernel
theorem dX9_town_285 : decode cX9_town 285 = .ok (.aload_n 0, 1) := by decide +kernel
theorem dX9_town_286 : decode cX9_town 286 = .ok (.getfield 23, 3) := by decide +kernel
theorem dX9_town_289 : decode cX9_town 289 = .ok (.bipush 8, 2) := by decide +kernel
theorem dX9_town_291 : decode cX9_town 291 = .ok (.iload_n 2, 1) := by decide +kernel
theorem dX9_town_292 : decode cX9_town 292 = .ok (.iadd, 1) := by decide +kernel
theorem dX9_town_293 : decode cX9_town 293 = .ok (.iaload, 1) := by decide +kernel
theorem dX9_town_294 : decode cX9_town 294 = .ok (.iastore, 1) := by decide +kernel
theorem dX9_town_295 : decode cX9_town 295 = .ok (.iinc 2 1, 3) := by decide +kernel
theorem dX9_town_298 : decode cX9_town 298 = .ok (.goto (-68), 3) := by decide +kernel
theorem dX9_town_301 : decode cX9_town 301 = .ok (.aload_n 0, 1) := by decide +kernel
theorem dX9_town_302 : decode cX9_town 302 = .ok (.iload_n 1, 1) := by decide +kernel
theorem dX9_town_303 : decode cX9_town 303 = .ok (.putfield 111, 3) := by decide +kernel
theorem dX9_town_306 : decode cX9_town 306 = .ok (.iconst 0, 1) := by decide +kernel
theorem dX9_town_307 : decode cX9_town 307 = .ok (.istore_n 2, 1) := by decide +kernel
theorem dX9_town_308 : decode cX9_town 308 = .ok (.iload_n 2, 1) := by decide +kernel
theorem dX9_town_309 : decode cX9_town 309 = .ok (.bipush 80, 2) := by decide +kernel
theorem dX9_town_311 : decode cX9_town 311 = .ok (.if_icmp .ge 16, 3) := by decide +kernel
theorem dX9_town_314 : decode cX9_town 314 = .ok (.aload_n 0, 1) := by decide +kernel
theorem dX9_town_315 : decode cX9_town 315 = .ok (.getfield 26, 3) := by decide +kernel
theorem dX9_town_318 : decode cX9_town 318 = .ok (.iload_n 2, 1) := by decide +kernel
theorem dX9_town_319 : decode cX9_town 319 = .ok (.iconst 0, 1) := by decide +kernel
theorem dX9_town_320 : decode cX9_town 320 = .ok (.iastore, 1) := by decide +kernel
theorem dX9_town_321 : decode cX9_town 321 = .ok (.iinc 2 1, 3) := by decide +kernel
theorem dX9_town_324 : decode cX9_town 324 = .ok (.goto (-16), 3) := by decide +kernel
theorem dX9_town_327 : decode cX9_town 327 = .ok (.aload_n 0, 1) := by decide +kernel
theorem dX9_town_328 : decode cX9_town 328 = .ok (.getfield 35, 3) := by decide +kernel
theorem dX9_town_331 : decode cX9_town 331 = .ok (.iconst 0, 1) := by decide +kernel
theorem dX9_town_332 : decode cX9_town 332 = .ok (.iconst 0, 1) := by decide +kernel
theorem dX9_town_333 : decode cX9_town 333 = .ok (.bastore, 1) := by decide +kernel
theorem dX9_town_334 : decode cX9_town 334 = .ok (.aload_n 0, 1) := by decide +kernel
theorem dX9_town_335 : decode cX9_town 335 = .ok (.getfield 35, 3) := by decide +kernel
theorem dX9_town_338 : decode cX9_town 338 = .ok (.iconst 1, 1) := by decide +kernel
theorem dX9_town_339 : decode cX9_town 339 = .ok (.iconst 0, 1) := by decide +kernel
theorem dX9_town_340 : decode cX9_town 340 = .ok (.bastore, 1) := by decide +kernel
theorem dX9_town_341 : decode cX9_town 341 = .ok (.iconst 0, 1) := by decide +kernel
theorem dX9_town_342 : decode cX9_town 342 = .ok (.istore_n 2, 1) := by decide +kernel
theorem dX9_town_343 : decode cX9_town 343 = .ok (.iload_n 2, 1) := by decide +kernel
theorem dX9_town_344 : decode cX9_town 344 = .ok (.iconst 4, 1) := by decide +kernel
theorem dX9_town_345 : decode cX9_town 345 = .ok (.if_icmp .ge 17, 3) := by decide +kernel
theorem dX9_town_348 : decode cX9_town 348 = .ok (.aload_n 0, 1) := by decide +kernel
theorem dX9_town_349 : decode cX9_town 349 = .ok (.getfield 42, 3) := by decide +kernel
theorem dX9_town_352 : decode cX9_town 352 = .ok (.iload_n 2, 1) := by decide +kernel
theorem dX9_town_353 : decode cX9_town 353 = .ok (.bipush (-9), 2) := by decide +kernel
theorem dX9_town_355 : decode cX9_town 355 = .ok (.iastore, 1) := by decide +kernel
theorem dX9_town_356 : decode cX9_town 356 = .ok (.iinc 2 1, 3) := by decide +kernel
theorem dX9_town_359 : decode cX9_town 359 = .ok (.goto (-16), 3) := by decide +kernel
theorem dX9_town_362 : decode cX9_town 362 = .ok (.aload_n 0, 1) := by decide +kernel
theorem dX9_town_363 : decode cX9_town 363 = .ok (.iconst 0, 1) := by decide +kernel
theorem dX9_town_364 : decode cX9_town 364 = .ok (.putfield 114, 3) := by decide +kernel
theorem dX9_town_367 : decode cX9_town 367 = .ok (.aload_n 0, 1) := by decide +kernel
theorem dX9_town_368 : decode cX9_town 368 = .ok (.iconst 0, 1) := by decide +kernel
theorem dX9_town_369 : decode cX9_town 369 = .ok (.putfield 64, 3) := by decide +kernel
theorem dX9_town_372 : decode cX9_town 372 = .ok (.iload_n 1, 1) := by decide +kernel
theorem dX9_town_373 : decode cX9_town 373 = .ok (.ireturn, 1) := by decide +kernel
theorem iX9_town_9 : ∀ w ∈ wsX90, w ∈ wsX9_town := fun w h => List.mem_cons_of_mem _ (List.mem_append_right _ h)
theorem fX9_town_13 : FL mX9_town 13 9 4 := ⟨_, _, _, rfl, by decide, iX9_town_9, by decide +kernel⟩
theorem fX9_town_17 : FL mX9_town 17 9 5 := ⟨_, _, _, rfl, by decide, iX9_town_9, by decide +kernel⟩
theorem fX9_town_20 : FL mX9_town 20 9 6 := ⟨_, _, _, rfl, by decide, iX9_town_9, by decide +kernel⟩
theorem fX9_town_23 : FL mX9_town 23 9 7 := ⟨_, _, _, rfl, by decide, iX9_town_9, by decide +kernel⟩
theorem fX9_town_26 : FL mX9_town 26 9 13 := ⟨_, _, _, rfl, by decide, iX9_town_9, by decide +kernel⟩
theorem fX9_town_35 : FL mX9_town 35 9 16 := ⟨_, _, _, rfl, by decide, iX9_town_9, by decide +kernel⟩
theorem fX9_town_42 : FL mX9_town 42 9 18 := ⟨_, _, _, rfl, by decide, iX9_town_9, by decide +kernel⟩
theorem pX9_town_64 : FP mX9_town 64 9 2 .int false := ⟨_, _, _, tyX9, rfl, by decide, iX9_town_9, by decide +kernel, tyX9_ok, nmX9, rfl, rfl, fun z => absurd z (by decide)⟩
theorem pX9_town_70 : FP mX9_town 70 9 8 .int false := ⟨_, _, _, tyX9, rfl, by decide, iX9_town_9, by decide +kernel, tyX9_ok, nmX9, rfl, rfl, fun z => absurd z (by decide)⟩
theorem fX9_town_76 : FL mX9_town 76 9 10 := ⟨_, _, _, rfl, by decide, iX9_town_9, by decide +kernel⟩
theorem fX9_town_83 : FL mX9_town 83 9 11 := ⟨_, _, _, rfl, by decide, iX9_town_9, by decide +kernel⟩
theorem fX9_town_101 : FL mX9_town 101 9 12 := ⟨_, _, _, rfl, by decide, iX9_town_9, by decide +kernel⟩
theorem pX9_town_101 : FP mX9_town 101 9 12 .int false := ⟨_, _, _, tyX9, rfl, by decide, iX9_town_9, by decide +kernel, tyX9_ok, nmX9, rfl, rfl, fun z => absurd z (by decide)⟩
theorem pX9_town_111 : FP mX9_town 111 9 3 .int false := ⟨_, _, _, tyX9, rfl, by decide, iX9_town_9, by decide +kernel, tyX9_ok, nmX9, rfl, rfl, fun z => absurd z (by decide)⟩
theorem pX9_town_114 : FP mX9_town 114 9 19 .int false := ⟨_, _, _, tyX9, rfl, by decide, iX9_town_9, by decide +kernel, tyX9_ok, nmX9, rfl, rfl, fun z => absurd z (by decide)⟩
set_option maxRecDepth 20000 in
theorem ggX9_town_X9_next : GoodIn wsX9_town wsX9_next := goodIn_r _ [19, 1, 20, 6, 3, 21, 22, 23, 24, 25, 26, 27, 18, 28, 14, 29, 30, 31, 32, 33, 34, 35, 36, 37, 38, 39, 40, 45, 46, 47, 48, 49, 50, 51, 52, 53, 54, 55, 56, 57, 58, 59, 60, 61, 62, 63, 64, 65, 66, 67, 68, 69] (by decide +kernel) (by decide +kernel)
set_option maxRecDepth 20000 in
theorem gX9_town_X9_next : GoodIn wsX9_town (wsV RX9 104 RX9 yX9_next wsX9_next) := goodIn_app (goodIn_of _ (by decide +kernel)) ggX9_town_X9_next
theorem wX9_town_104 : CWV mX9_town 104 mX9_next 0 := ⟨gX9_town_X9_next, ⟨_, rfl⟩, rfl, by decide +kernel, by decide +kernel, by decide +kernel⟩
set_option maxRecDepth 20000 in
theorem ggX9_town_X9_due : GoodIn wsX9_town wsX9_due := goodIn_r _ [44, 6, 2, 20, 15, 16, 17, 18, 19, 1, 3, 21, 22, 23, 24, 25, 26, 27, 28, 14, 29, 30, 31, 32, 33, 34, 35, 36, 37, 38, 39, 40, 45, 46, 47, 48, 49, 50, 51, 52, 53, 54, 55, 56, 57, 58, 59, 60, 61, 62, 63, 64, 65, 66, 67, 68, 69] (by decide +kernel) (by decide +kernel)
set_option maxRecDepth 20000 in
theorem gX9_town_X9_due : GoodIn wsX9_town (wsV RX9 107 RX9 yX9_due wsX9_due) := goodIn_app (goodIn_of _ (by decide +kernel)) ggX9_town_X9_due
theorem wX9_town_107 : CWV mX9_town 107 mX9_due 1 := ⟨gX9_town_X9_due, ⟨_, rfl⟩, rfl, by decide +kernel, by decide +kernel, by decide +kernel⟩
def byt (c : Nat) : Int32 := (nI c).toInt8.toInt32
theorem byt_and : ∀ c, c < 256 → byt c &&& 255 = nI c := by decide +kernel
theorem byt_lo : ∀ c, c < 128 → byt c = nI c := by decide +kernel
theorem byt_eq {c d : Nat} (hc : c < 256) (hd : d < 128) (h : byt c = nI d) : c = d := by
  rw [← byt_lo d hd] at h
  have h2 : byt c &&& 255 = byt d &&& 255 := by rw [h]
  rw [byt_and c hc, byt_and d (by omega)] at h2
  exact (nI_eq (by omega) (by omega)).mp h2
theorem sCN_lo : ∀ i, i < 5 → ∀ k, k < sLn i → sCN i k < 128 := by decide +kernel
theorem sLn_45 : ∀ i, i < 5 → sLn i = 4 ∨ sLn i = 5 := by decide +kernel
theorem sCN_5 : ∀ i, i < 5 → sLn i = 5 → (nI (sCN i 0) = 108 → (116 : Int32) = nI (sCN i 4)) ∧ (¬ nI (sCN i 0) = 108 → (121 : Int32) = nI (sCN i 4)) := by decide +kernel
theorem weq_iff {t : Nat → Nat} {s i : Nat} : ∀ d k, weq t s i d k = true ↔ ∀ j, j < d → t (s + (k + j)) = sCN i (k + j)
  | 0, k => ⟨fun _ j hj => absurd hj (Nat.not_lt_zero j), fun _ => rfl⟩
  | d + 1, k => by
    simp only [weq]
    by_cases e : t (s + k) = sCN i k
    · rw [if_pos e, weq_iff d (k + 1)]
      constructor
      · intro q j hj
        cases j with
        | zero => exact e
        | succ j => rw [show k + (j + 1) = k + 1 + j by omega]; exact q j (by omega)
      · intro q j hj
        rw [show k + 1 + j = k + (j + 1) by omega]
        exact q (j + 1) (by omega)
    · rw [if_neg e]
      exact ⟨fun q => absurd q (by decide), fun q => absurd (q 0 (by omega)) e⟩
theorem wIs_t {t : Nat → Nat} {s e i : Nat} (h1 : e - s = sLn i) (h2 : ∀ k, k < sLn i → t (s + k) = sCN i k) : wIs t s e i = true := by
  unfold wIs
  rw [decide_eq_true h1, Bool.true_and]
  exact (weq_iff _ 0).mpr (fun j hj => by rw [Nat.zero_add]; exact h2 j hj)
theorem wIs_f {t : Nat → Nat} {s e i k : Nat} (hk : k < sLn i) (h2 : ¬ t (s + k) = sCN i k) : wIs t s e i = false := by
  unfold wIs
  cases hw : weq t s i (sLn i) 0 with
  | false => rw [Bool.and_false]
  | true =>
    have := (weq_iff _ 0).mp hw k hk
    rw [Nat.zero_add] at this
    exact absurd this h2
theorem wIs_n {t : Nat → Nat} {s e i : Nat} (h1 : ¬ e - s = sLn i) : wIs t s e i = false := by
  unfold wIs
  rw [decide_eq_false h1, Bool.false_and]
def wSo (k : Nat) : Nat := if k = 4 ∨ k = 5 ∨ k = 6 then 1 else if k = 7 ∨ k = 8 then 2 else 5
def wVa (k : Nat) : Nat := if k = 4 ∨ k = 5 ∨ k = 6 then k - 4 else if k = 7 ∨ k = 8 then k - 7 else 0
def numM (t : Nat → Nat) (len : Nat) : Nat → Nat → Nat → Nat × Nat
  | 0, a, v => (a, v)
  | d + 1, a, v => if a < len ∧ isDg (t a) = true then numM t len d (a + 1) (if 99 < v then v else 10 * v + t a - 48) else (a, v)
def nxS (t : Nat → Nat) (len s : Nat) : sT :=
  if len ≤ s then (s, s, 0, 0)
  else if isLt (t s) = true then (skp isLt t len (len - s) s, s, wSo (wTok t s (skp isLt t len (len - s) s)), wVa (wTok t s (skp isLt t len (len - s) s)))
  else if isDg (t s) = true then ((numM t len (len - s) s 0).1, s, (if 99 < (numM t len (len - s) s 0).2 ∨ (t s = 48 ∧ 1 < (numM t len (len - s) s 0).1 - s) then 5 else 3), (numM t len (len - s) s 0).2)
  else (s + 1, s, (if t s = 59 then 4 else 5), 0)
def nxF (t : Nat → Nat) (len a : Nat) : sT := nxS t len (skp isBl t len (len - a) a)
def zN (z : Nat → Int32) (S : sT) : Nat → Int32 := upd (upd (upd (upd z 8 (nI S.1)) 9 (nI S.2.1)) 10 (nI S.2.2.1)) 11 (nI S.2.2.2)
theorem inB_Lt : ∀ c, c < 256 → inB (nI c).toInt64 97 122 = isLt c := by decide +kernel
theorem inB_Dg : ∀ c, c < 256 → inB (nI c).toInt64 48 57 = isDg c := by decide +kernel
theorem numM_le {t : Nat → Nat} {len : Nat} : ∀ d a v, a ≤ len → v ≤ 999 → a ≤ (numM t len d a v).1 ∧ (numM t len d a v).1 ≤ len ∧ (numM t len d a v).2 ≤ 999
  | 0, a, v, h1, h2 => ⟨Nat.le_refl _, h1, h2⟩
  | d + 1, a, v, h1, h2 => by
    simp only [numM]
    by_cases e : a < len ∧ isDg (t a) = true
    · rw [if_pos e]
      have hd := isDg_in e.2
      have hv : (if 99 < v then v else 10 * v + t a - 48) ≤ 999 := by
        by_cases h9 : 99 < v
        · rw [if_pos h9]; exact h2
        · rw [if_neg h9]; omega
      have := numM_le (t := t) d (a + 1) _ e.1 hv
      exact ⟨by omega, this.2⟩
    · rw [if_neg e]
      exact ⟨Nat.le_refl _, h1, h2⟩
section
variable {Γ : gT} {l : Launch} {as : List Nat} {h : aH} {m : Nat} {tc : Int64} {r : Nat → Nat} {z : Nat → Int32} {t : Nat → Nat} {len a s e : Nat} {bm : Nat → Int32}
theorem n_here (ha : a < len) (hl : len ≤ 300) (hM : hat as h m (mo tc r z)) (h2 : z 2 = nI len) (h8 : z 8 = nI a) (hb : hat as h (r 1) (aB Γ 300 bm)) (ht : ∀ j, j < len → bm j = byt (t j) ∧ t j < 256) : Det Γ l mX9_here rX9_here [.ref m] as h (some (.int (nI (t a)))) h := by
  refine Con.of (by decide +kernel) rfl rfl (Nat.le_of_ble_eq_true rfl) ?_
  refine q_aload_n dX9_here_0 rfl rfl ?_
  refine q_get dX9_here_1 fX9_here_70 (hM) rfl ?_
  refine q_aload_n dX9_here_4 rfl rfl ?_
  refine q_get dX9_here_5 fX9_here_64 (hM) rfl ?_
  refine q_icmp_ge 27 dX9_here_8 (by decide) (fun z => absurd z (by rw [h2, h8]; exact nI_ge ha (by omega))) (fun _ => ?_)
  refine q_aload_n dX9_here_11 rfl rfl ?_
  refine q_get dX9_here_12 fX9_here_7 (hM) rfl ?_
  refine q_aload_n dX9_here_15 rfl rfl ?_
  refine q_get dX9_here_16 fX9_here_70 (hM) rfl ?_
  rw [h8]
  refine q_bald dX9_here_19 (hb) (in_nI (show a < 300 by omega) (by omega)) ?_
  refine q_sipush (v := 255) dX9_here_20 rfl ?_
  refine q_iand dX9_here_23 ?_
  rw [nI_clamp (by omega), (ht a ha).1, byt_and _ (ht a ha).2]
  refine q_goto 28 dX9_here_24 (by decide) ?_
  exact q_iret dX9_here_28 rfl (Nat.zero_le _) (Nat.zero_le _) (⟨rfl, rfl, rfl⟩)
theorem n_here_end (ha : len ≤ a) (ha3 : a ≤ 300) (hM : hat as h m (mo tc r z)) (h2 : z 2 = nI len) (h8 : z 8 = nI a) : Det Γ l mX9_here rX9_here [.ref m] as h (some (.int (-1))) h := by
  refine Con.of (by decide +kernel) rfl rfl (Nat.le_of_ble_eq_true rfl) ?_
  refine q_aload_n dX9_here_0 rfl rfl ?_
  refine q_get dX9_here_1 fX9_here_70 (hM) rfl ?_
  refine q_aload_n dX9_here_4 rfl rfl ?_
  refine q_get dX9_here_5 fX9_here_64 (hM) rfl ?_
  refine q_icmp_ge 27 dX9_here_8 (by decide) (fun _ => ?_) (fun z => absurd (by rw [h2, h8]; exact nI_le ha (by omega)) z)
  refine q_iconst (v := (-1)) dX9_here_27 rfl ?_
  exact q_iret dX9_here_28 rfl (Nat.zero_le _) (Nat.zero_le _) (⟨rfl, rfl, rfl⟩)
theorem n_isSpelled {i : Nat} (hi : i < 5) (hse : s ≤ e) (he : e ≤ len) (hl : len ≤ 300) (hM : hat as h m (mo tc r z)) (h8 : z 8 = nI e) (h9 : z 9 = nI s) (hb : hat as h (r 1) (aB Γ 300 bm)) (ht : ∀ j, j < len → bm j = byt (t j) ∧ t j < 256) : Det Γ l mX9_isSpelled rX9_isSpelled [.ref m, .int (nI (sLn i)), .int (nI (sCN i 0)), .int (nI (sCN i 1)), .int (nI (sCN i 2)), .int (nI (sCN i 3))] as h (some (.int (bI (wIs t s e i)))) h := by
  have h45 := sLn_45 i hi
  have hlo := sCN_lo i hi
  generalize hW : wIs t s e i = W
  have no : wIs t s e i = false → ∀ ls : List (Nat × Value), V Γ l mX9_isSpelled rX9_isSpelled (Zm Γ rX9_isSpelled (qD (some (.int (bI W))) as h)) 0 0 77 ls [] as h := by
    intro hf ls
    rw [← hW, hf]
    refine q_iconst (v := 0) dX9_isSpelled_77 rfl ?_
    refine q_istore dX9_isSpelled_78 (by decide) ?_
    refine q_iload dX9_isSpelled_80 rfl ?_
    refine q_if_eq 121 dX9_isSpelled_82 (by decide) (fun _ => ?_) (fun z => absurd (rfl) z)
    refine q_iconst (v := 0) dX9_isSpelled_121 rfl ?_
    exact q_zret dX9_isSpelled_122 rfl (rfl) (Nat.zero_le _) (Nat.zero_le _) (⟨rfl, rfl, rfl⟩)
  have ne : ∀ k, k < sLn i → e - s = sLn i → ¬ byt (t (s + k)) = nI (sCN i k) → wIs t s e i = false := fun k hk hE hc => wIs_f hk (fun q => hc (by rw [q]; exact byt_lo _ (hlo k hk)))
  have eq : ∀ k, k < sLn i → e - s = sLn i → byt (t (s + k)) = nI (sCN i k) → t (s + k) = sCN i k := fun k hk hE hc => byt_eq (ht (s + k) (by omega)).2 (hlo k hk) hc
  refine Con.of (by decide +kernel) rfl rfl (Nat.le_of_ble_eq_true rfl) ?_
  refine q_aload_n dX9_isSpelled_0 rfl rfl ?_
  refine q_get dX9_isSpelled_1 fX9_isSpelled_70 (hM) rfl ?_
  refine q_aload_n dX9_isSpelled_4 rfl rfl ?_
  refine q_get dX9_isSpelled_5 fX9_isSpelled_73 (hM) rfl ?_
  refine q_isub dX9_isSpelled_8 ?_
  refine q_iload_n dX9_isSpelled_9 rfl rfl ?_
  rw [h8, h9, pk_sub hse]
  refine q_icmp_ne 77 dX9_isSpelled_10 (by decide) (fun c10 => ?_) (fun c10 => ?_)
  · first | exact no (ne 3 (by omega) hE c70) _ | exact no (ne 2 (by omega) hE c54) _ | exact no (ne 1 (by omega) hE c38) _ | exact no (ne 0 (by omega) hE c23) _ | exact no (wIs_n (fun q => c10 (by rw [q]))) _
  · have hE : e - s = sLn i := (nI_eq (by omega) (by omega)).mp c10
    refine q_aload_n dX9_isSpelled_13 rfl rfl ?_
    refine q_get dX9_isSpelled_14 fX9_isSpelled_7 (hM) rfl ?_
    refine q_aload_n dX9_isSpelled_17 rfl rfl ?_
    refine q_get dX9_isSpelled_18 fX9_isSpelled_73 (hM) rfl ?_
    rw [h9]
    refine q_bald dX9_isSpelled_21 (hb) (in_nI (show s < 300 by omega) (by omega)) ?_
    rw [nI_clamp (by omega), (ht s (by omega)).1]
    refine q_iload_n dX9_isSpelled_22 rfl rfl ?_
    refine q_icmp_ne 77 dX9_isSpelled_23 (by decide) (fun c23 => ?_) (fun c23 => ?_)
    · first | exact no (ne 3 (by omega) hE c70) _ | exact no (ne 2 (by omega) hE c54) _ | exact no (ne 1 (by omega) hE c38) _ | exact no (ne 0 (by omega) hE c23) _ | exact no (wIs_n (fun q => c10 (by rw [q]))) _
    · refine q_aload_n dX9_isSpelled_26 rfl rfl ?_
      refine q_get dX9_isSpelled_27 fX9_isSpelled_7 (hM) rfl ?_
      refine q_aload_n dX9_isSpelled_30 rfl rfl ?_
      refine q_get dX9_isSpelled_31 fX9_isSpelled_73 (hM) rfl ?_
      refine q_iconst (v := 1) dX9_isSpelled_34 rfl ?_
      refine q_iadd dX9_isSpelled_35 ?_
      rw [h9, nI_s]
      refine q_bald dX9_isSpelled_36 (hb) (in_nI (show s + 1 < 300 by omega) (by omega)) ?_
      rw [nI_clamp (by omega), (ht (s + 1) (by omega)).1]
      refine q_iload_n dX9_isSpelled_37 rfl rfl ?_
      refine q_icmp_ne 77 dX9_isSpelled_38 (by decide) (fun c38 => ?_) (fun c38 => ?_)
      · first | exact no (ne 3 (by omega) hE c70) _ | exact no (ne 2 (by omega) hE c54) _ | exact no (ne 1 (by omega) hE c38) _ | exact no (ne 0 (by omega) hE c23) _ | exact no (wIs_n (fun q => c10 (by rw [q]))) _
      · refine q_aload_n dX9_isSpelled_41 rfl rfl ?_
        refine q_get dX9_isSpelled_42 fX9_isSpelled_7 (hM) rfl ?_
        refine q_aload_n dX9_isSpelled_45 rfl rfl ?_
        refine q_get dX9_isSpelled_46 fX9_isSpelled_73 (hM) rfl ?_
        refine q_iconst (v := 2) dX9_isSpelled_49 rfl ?_
        refine q_iadd dX9_isSpelled_50 ?_
        rw [h9, show nI s + 2 = nI (s + 2) from nI_add s 2]
        refine q_bald dX9_isSpelled_51 (hb) (in_nI (show s + 2 < 300 by omega) (by omega)) ?_
        rw [nI_clamp (by omega), (ht (s + 2) (by omega)).1]
        refine q_iload dX9_isSpelled_52 rfl ?_
        refine q_icmp_ne 77 dX9_isSpelled_54 (by decide) (fun c54 => ?_) (fun c54 => ?_)
        · first | exact no (ne 3 (by omega) hE c70) _ | exact no (ne 2 (by omega) hE c54) _ | exact no (ne 1 (by omega) hE c38) _ | exact no (ne 0 (by omega) hE c23) _ | exact no (wIs_n (fun q => c10 (by rw [q]))) _
        · refine q_aload_n dX9_isSpelled_57 rfl rfl ?_
          refine q_get dX9_isSpelled_58 fX9_isSpelled_7 (hM) rfl ?_
          refine q_aload_n dX9_isSpelled_61 rfl rfl ?_
          refine q_get dX9_isSpelled_62 fX9_isSpelled_73 (hM) rfl ?_
          refine q_iconst (v := 3) dX9_isSpelled_65 rfl ?_
          refine q_iadd dX9_isSpelled_66 ?_
          rw [h9, show nI s + 3 = nI (s + 3) from nI_add s 3]
          refine q_bald dX9_isSpelled_67 (hb) (in_nI (show s + 3 < 300 by omega) (by omega)) ?_
          rw [nI_clamp (by omega), (ht (s + 3) (by omega)).1]
          refine q_iload dX9_isSpelled_68 rfl ?_
          refine q_icmp_ne 77 dX9_isSpelled_70 (by decide) (fun c70 => ?_) (fun c70 => ?_)
          · first | exact no (ne 3 (by omega) hE c70) _ | exact no (ne 2 (by omega) hE c54) _ | exact no (ne 1 (by omega) hE c38) _ | exact no (ne 0 (by omega) hE c23) _ | exact no (wIs_n (fun q => c10 (by rw [q]))) _
          · have e0 := eq 0 (by omega) hE c23
            have e1 := eq 1 (by omega) hE c38
            have e2 := eq 2 (by omega) hE c54
            have e3 := eq 3 (by omega) hE c70
            refine q_iconst (v := 1) dX9_isSpelled_73 rfl ?_
            refine q_goto 78 dX9_isSpelled_74 (by decide) ?_
            refine q_istore dX9_isSpelled_78 (by decide) ?_
            refine q_iload dX9_isSpelled_80 rfl ?_
            refine q_if_eq 121 dX9_isSpelled_82 (by decide) (fun z => absurd z (by decide)) (fun _ => ?_)
            refine q_iload_n dX9_isSpelled_85 rfl rfl ?_
            refine q_iconst (v := 5) dX9_isSpelled_86 rfl ?_
            refine q_icmp_lt 117 dX9_isSpelled_87 (by decide) (fun c87 => ?_) (fun c87 => ?_)
            · skip
              have h4 : sLn i = 4 := by rcases h45 with q | q; exact q; rw [q] at c87; exact absurd c87 (by decide)
              rw [← hW, wIs_t hE (fun k hk => by rcases (show k = 0 ∨ k = 1 ∨ k = 2 ∨ k = 3 by omega) with rfl | rfl | rfl | rfl; exact e0; exact e1; exact e2; exact e3)]
              refine q_iconst (v := 1) dX9_isSpelled_117 rfl ?_
              refine q_goto 122 dX9_isSpelled_118 (by decide) ?_
              exact q_zret dX9_isSpelled_122 rfl (rfl) (Nat.zero_le _) (Nat.zero_le _) (⟨rfl, rfl, rfl⟩)
            · skip
              have h5 : sLn i = 5 := by rcases h45 with q | q; rw [q] at c87; exact absurd (by decide) c87; exact q
              have yes5 : t (s + 4) = sCN i 4 → ∀ ls : List (Nat × Value), V Γ l mX9_isSpelled rX9_isSpelled (Zm Γ rX9_isSpelled (qD (some (.int (bI W))) as h)) 0 0 117 ls [] as h := by
                intro e4 ls
                rw [← hW, wIs_t hE (fun k hk => by rcases (show k = 0 ∨ k = 1 ∨ k = 2 ∨ k = 3 ∨ k = 4 by omega) with rfl | rfl | rfl | rfl | rfl; exact e0; exact e1; exact e2; exact e3; exact e4)]
                refine q_iconst (v := 1) dX9_isSpelled_117 rfl ?_
                refine q_goto 122 dX9_isSpelled_118 (by decide) ?_
                exact q_zret dX9_isSpelled_122 rfl (rfl) (Nat.zero_le _) (Nat.zero_le _) (⟨rfl, rfl, rfl⟩)
              have jn : ∀ (p : Int32) (ls : List (Nat × Value)), p = nI (sCN i 4) → V Γ l mX9_isSpelled rX9_isSpelled (Zm Γ rX9_isSpelled (qD (some (.int (bI W))) as h)) 0 0 114 ls [.int p, .int (byt (t (s + 4)))] as h := by
                intro p ls hp
                subst hp
                refine q_icmp_ne 121 dX9_isSpelled_114 (by decide) (fun cH => ?_) (fun cH => ?_)
                · rw [← hW, ne 4 (by omega) hE cH]
                  refine q_iconst (v := 0) dX9_isSpelled_121 rfl ?_
                  exact q_zret dX9_isSpelled_122 rfl (rfl) (Nat.zero_le _) (Nat.zero_le _) (⟨rfl, rfl, rfl⟩)
                · exact yes5 (eq 4 (by omega) hE cH) _
              refine q_aload_n dX9_isSpelled_90 rfl rfl ?_
              refine q_get dX9_isSpelled_91 fX9_isSpelled_7 (hM) rfl ?_
              refine q_aload_n dX9_isSpelled_94 rfl rfl ?_
              refine q_get dX9_isSpelled_95 fX9_isSpelled_73 (hM) rfl ?_
              refine q_iconst (v := 4) dX9_isSpelled_98 rfl ?_
              refine q_iadd dX9_isSpelled_99 ?_
              rw [h9, show nI s + 4 = nI (s + 4) from nI_add s 4]
              refine q_bald dX9_isSpelled_100 (hb) (in_nI (show s + 4 < 300 by omega) (by omega)) ?_
              rw [nI_clamp (by omega), (ht (s + 4) (by omega)).1]
              refine q_iload_n dX9_isSpelled_101 rfl rfl ?_
              refine q_bipush (v := 108) dX9_isSpelled_102 rfl ?_
              refine q_icmp_ne 112 dX9_isSpelled_104 (by decide) (fun cG => ?_) (fun cG => ?_)
              · refine q_bipush (v := 121) dX9_isSpelled_112 rfl ?_
                exact jn _ _ ((sCN_5 i hi h5).2 cG)
              · refine q_bipush (v := 116) dX9_isSpelled_107 rfl ?_
                refine q_goto 114 dX9_isSpelled_109 (by decide) ?_
                exact jn _ _ ((sCN_5 i hi h5).1 cG)
end

