/-! LIGHTCOINS (X8): years, changers, laws, kinds, images -/
abbrev mX8_year : mT := (yX8_year, RX8, cX8_year, 3, (some .int), wsX8_year)
abbrev rX8_year : Room := { frames := 2, cells := 0, slots := 0, locals := 63 }
theorem dX8_year_0 : decode cX8_year 0 = .ok (.iload_n 1, 1) := by decide +kernel
theorem dX8_year_1 : decode cX8_year 1 = .ok (.iconst 1, 1) := by decide +kernel
theorem dX8_year_2 : decode cX8_year 2 = .ok (.if_icmp .lt 9, 3) := by decide +kernel
theorem dX8_year_5 : decode cX8_year 5 = .ok (.iload_n 1, 1) := by decide +kernel
theorem dX8_year_6 : decode cX8_year 6 = .ok (.bipush 50, 2) := by decide +kernel
theorem dX8_year_8 : decode cX8_year 8 = .ok (.if_icmp .le 5, 3) := by decide +kernel
theorem dX8_year_11 : decode cX8_year 11 = .ok (.iconst (-1), 1) := by decide +kernel
theorem dX8_year_12 : decode cX8_year 12 = .ok (.ireturn, 1) := by decide +kernel
theorem dX8_year_13 : decode cX8_year 13 = .ok (.aload_n 0, 1) := by decide +kernel
theorem dX8_year_14 : decode cX8_year 14 = .ok (.getfield 75, 3) := by decide +kernel
theorem dX8_year_17 : decode cX8_year 17 = .ok (.iload_n 1, 1) := by decide +kernel
theorem dX8_year_18 : decode cX8_year 18 = .ok (.iadd, 1) := by decide +kernel
theorem dX8_year_19 : decode cX8_year 19 = .ok (.sipush 1000, 3) := by decide +kernel
theorem dX8_year_22 : decode cX8_year 22 = .ok (.if_icmp .le 6, 3) := by decide +kernel
theorem dX8_year_25 : decode cX8_year 25 = .ok (.bipush (-2), 2) := by decide +kernel
theorem dX8_year_27 : decode cX8_year 27 = .ok (.ireturn, 1) := by decide +kernel
theorem dX8_year_28 : decode cX8_year 28 = .ok (.iconst 0, 1) := by decide +kernel
theorem dX8_year_29 : decode cX8_year 29 = .ok (.istore_n 2, 1) := by decide +kernel
theorem dX8_year_30 : decode cX8_year 30 = .ok (.iload_n 2, 1) := by decide +kernel
theorem dX8_year_31 : decode cX8_year 31 = .ok (.iload_n 1, 1) := by decide +kernel
theorem dX8_year_32 : decode cX8_year 32 = .ok (.if_icmp .ge 44, 3) := by decide +kernel
theorem dX8_year_35 : decode cX8_year 35 = .ok (.aload_n 0, 1) := by decide +kernel
theorem dX8_year_36 : decode cX8_year 36 = .ok (.dup, 1) := by decide +kernel
theorem dX8_year_37 : decode cX8_year 37 = .ok (.getfield 75, 3) := by decide +kernel
theorem dX8_year_40 : decode cX8_year 40 = .ok (.iconst 1, 1) := by decide +kernel
theorem dX8_year_41 : decode cX8_year 41 = .ok (.iadd, 1) := by decide +kernel
theorem dX8_year_42 : decode cX8_year 42 = .ok (.putfield 75, 3) := by decide +kernel
theorem dX8_year_45 : decode cX8_year 45 = .ok (.aload_n 0, 1) := by decide +kernel
theorem dX8_year_46 : decode cX8_year 46 = .ok (.getfield 29, 3) := by decide +kernel
theorem dX8_year_49 : decode cX8_year 49 = .ok (.iconst 5, 1) := by decide +kernel
theorem dX8_year_50 : decode cX8_year 50 = .ok (.invokevirtual 172, 3) := by decide +kernel
theorem dX8_year_53 : decode cX8_year 53 = .ok (.aload_n 0, 1) := by decide +kernel
theorem dX8_year_54 : decode cX8_year 54 = .ok (.getfield 75, 3) := by decide +kernel
theorem dX8_year_57 : decode cX8_year 57 = .ok (.invokestatic 218, 3) := by decide +kernel
theorem dX8_year_60 : decode cX8_year 60 = .ok (.ifCond .eq 10, 3) := by decide +kernel
theorem dX8_year_63 : decode cX8_year 63 = .ok (.aload_n 0, 1) := by decide +kernel
theorem dX8_year_64 : decode cX8_year 64 = .ok (.getfield 19, 3) := by decide +kernel
theorem dX8_year_67 : decode cX8_year 67 = .ok (.invokevirtual 222, 3) := by decide +kernel
theorem dX8_year_70 : decode cX8_year 70 = .ok (.iinc 2 1, 3) := by decide +kernel
theorem dX8_year_73 : decode cX8_year 73 = .ok (.goto (-43), 3) := by decide +kernel
theorem dX8_year_76 : decode cX8_year 76 = .ok (.aload_n 0, 1) := by decide +kernel
theorem dX8_year_77 : decode cX8_year 77 = .ok (.getfield 75, 3) := by decide +kernel
theorem dX8_year_80 : decode cX8_year 80 = .ok (.ireturn, 1) := by decide +kernel
theorem iX8_year_8 : ∀ w ∈ wsX80, w ∈ wsX8_year := fun w h => List.mem_cons_of_mem _ (List.mem_append_left _ (List.mem_append_left _ (List.mem_append_right _ h)))
theorem fX8_year_19 : FL mX8_year 19 8 1 := ⟨_, _, _, rfl, by decide, iX8_year_8, by decide +kernel⟩
theorem fX8_year_29 : FL mX8_year 29 8 3 := ⟨_, _, _, rfl, by decide, iX8_year_8, by decide +kernel⟩
theorem fX8_year_75 : FL mX8_year 75 8 11 := ⟨_, _, _, rfl, by decide, iX8_year_8, by decide +kernel⟩
theorem pX8_year_75 : FP mX8_year 75 8 11 .int false := ⟨_, _, _, tyX8, rfl, by decide, iX8_year_8, by decide +kernel, tyX8_ok, nmX8, rfl, rfl, fun z => absurd z (by decide)⟩
set_option maxRecDepth 20000 in
theorem ggX8_year_X7_of : GoodIn wsX8_year wsX7_of := goodIn_r _ [8, 9, 45] (by decide +kernel) (by decide +kernel)
set_option maxRecDepth 20000 in
theorem gX8_year_X7_of : GoodIn wsX8_year (wsV RX8 172 RX7 yX7_of wsX7_of) := goodIn_app (goodIn_of _ (by decide +kernel)) ggX8_year_X7_of
theorem wX8_year_172 : CWV mX8_year 172 mX7_of 1 := ⟨gX8_year_X7_of, ⟨_, rfl⟩, rfl, by decide +kernel, by decide +kernel, by decide +kernel⟩
set_option maxRecDepth 20000 in
theorem ggX8_year_X8_divides : GoodIn wsX8_year wsX8_divides := goodIn_r _ [13] (by decide +kernel) (by decide +kernel)
set_option maxRecDepth 20000 in
theorem gX8_year_X8_divides : GoodIn wsX8_year (va_wsS RX8 218 yX8_divides wsX8_divides) := goodIn_app (goodIn_of _ (by decide +kernel)) ggX8_year_X8_divides
theorem wX8_year_218 : CWS mX8_year 218 mX8_divides 2 := ⟨gX8_year_X8_divides, ⟨_, rfl⟩, by decide +kernel, by decide +kernel, by decide +kernel⟩
set_option maxRecDepth 20000 in
theorem ggX8_year_X4_loseGrain : GoodIn wsX8_year wsX4_loseGrain := goodIn_r _ [18, 19, 20, 21, 22, 23, 24, 25, 17, 26, 27, 28, 29, 30, 31, 46] (by decide +kernel) (by decide +kernel)
set_option maxRecDepth 20000 in
theorem gX8_year_X4_loseGrain : GoodIn wsX8_year (wsV RX8 222 RX4 yX4_loseGrain wsX4_loseGrain) := goodIn_app (goodIn_of _ (by decide +kernel)) ggX8_year_X4_loseGrain
theorem wX8_year_222 : CWV mX8_year 222 mX4_loseGrain 0 := ⟨gX8_year_X4_loseGrain, ⟨_, rfl⟩, rfl, by decide +kernel, by decide +kernel, by decide +kernel⟩
abbrev mX8_mean : mT := (yX8_mean, RX8, cX8_mean, 3, (some .long), wsX8_mean)
abbrev rX8_mean : Room := { frames := 4, cells := 0, slots := 0, locals := 89 }
theorem dX8_mean_0 : decode cX8_mean 0 = .ok (.aload_n 0, 1) := by decide +kernel
theorem dX8_mean_1 : decode cX8_mean 1 = .ok (.getfield 19, 3) := by decide +kernel
theorem dX8_mean_4 : decode cX8_mean 4 = .ok (.invokevirtual 225, 3) := by decide +kernel
theorem dX8_mean_7 : decode cX8_mean 7 = .ok (.istore_n 2, 1) := by decide +kernel
theorem dX8_mean_8 : decode cX8_mean 8 = .ok (.iload_n 1, 1) := by decide +kernel
theorem dX8_mean_9 : decode cX8_mean 9 = .ok (.invokestatic 164, 3) := by decide +kernel
theorem dX8_mean_12 : decode cX8_mean 12 = .ok (.ifCond .eq 7, 3) := by decide +kernel
theorem dX8_mean_15 : decode cX8_mean 15 = .ok (.iload_n 2, 1) := by decide +kernel
theorem dX8_mean_16 : decode cX8_mean 16 = .ok (.ifCond .ne 7, 3) := by decide +kernel
theorem dX8_mean_19 : decode cX8_mean 19 = .ok (.ldc2_w 170, 3) := by decide +kernel
theorem dX8_mean_22 : decode cX8_mean 22 = .ok (.lreturn, 1) := by decide +kernel
theorem dX8_mean_23 : decode cX8_mean 23 = .ok (.aload_n 0, 1) := by decide +kernel
theorem dX8_mean_24 : decode cX8_mean 24 = .ok (.getfield 19, 3) := by decide +kernel
theorem dX8_mean_27 : decode cX8_mean 27 = .ok (.invokevirtual 228, 3) := by decide +kernel
theorem dX8_mean_30 : decode cX8_mean 30 = .ok (.i2l, 1) := by decide +kernel
theorem dX8_mean_31 : decode cX8_mean 31 = .ok (.iload_n 2, 1) := by decide +kernel
theorem dX8_mean_32 : decode cX8_mean 32 = .ok (.i2l, 1) := by decide +kernel
theorem dX8_mean_33 : decode cX8_mean 33 = .ok (.iload_n 1, 1) := by decide +kernel
theorem dX8_mean_34 : decode cX8_mean 34 = .ok (.invokestatic 186, 3) := by decide +kernel
theorem dX8_mean_37 : decode cX8_mean 37 = .ok (.lreturn, 1) := by decide +kernel
theorem iX8_mean_8 : ∀ w ∈ wsX80, w ∈ wsX8_mean := fun w h => List.mem_cons_of_mem _ (List.mem_append_left _ (List.mem_append_right _ h))
theorem fX8_mean_19 : FL mX8_mean 19 8 1 := ⟨_, _, _, rfl, by decide, iX8_mean_8, by decide +kernel⟩
set_option maxRecDepth 20000 in
theorem ggX8_mean_X8_isUpperOrLower : GoodIn wsX8_mean wsX8_isUpperOrLower := goodIn_r _ [24] (by decide +kernel) (by decide +kernel)
set_option maxRecDepth 20000 in
theorem gX8_mean_X8_isUpperOrLower : GoodIn wsX8_mean (va_wsS RX8 164 yX8_isUpperOrLower wsX8_isUpperOrLower) := goodIn_app (goodIn_of _ (by decide +kernel)) ggX8_mean_X8_isUpperOrLower
theorem wX8_mean_164 : CWS mX8_mean 164 mX8_isUpperOrLower 1 := ⟨gX8_mean_X8_isUpperOrLower, ⟨_, rfl⟩, by decide +kernel, by decide +kernel, by decide +kernel⟩
set_option maxRecDepth 20000 in
theorem ggX8_mean_X8_leastTerms : GoodIn wsX8_mean wsX8_leastTerms := goodIn_r _ [35, 36, 37, 38, 39, 2, 40, 41, 23, 42] (by decide +kernel) (by decide +kernel)
set_option maxRecDepth 20000 in
theorem gX8_mean_X8_leastTerms : GoodIn wsX8_mean (va_wsS RX8 186 yX8_leastTerms wsX8_leastTerms) := goodIn_app (goodIn_of _ (by decide +kernel)) ggX8_mean_X8_leastTerms
theorem wX8_mean_186 : CWS mX8_mean 186 mX8_leastTerms 3 := ⟨gX8_mean_X8_leastTerms, ⟨_, rfl⟩, by decide +kernel, by decide +kernel, by decide +kernel⟩
set_option maxRecDepth 20000 in
theorem ggX8_mean_X4_allCoins : GoodIn wsX8_mean wsX4_allCoins := goodIn_r _ [7, 8, 9, 10, 6, 11, 12, 13, 14, 15, 16, 17, 18, 19, 20, 56] (by decide +kernel) (by decide +kernel)
set_option maxRecDepth 20000 in
theorem gX8_mean_X4_allCoins : GoodIn wsX8_mean (wsV RX8 225 RX4 yX4_allCoins wsX4_allCoins) := goodIn_app (goodIn_of _ (by decide +kernel)) ggX8_mean_X4_allCoins
theorem wX8_mean_225 : CWV mX8_mean 225 mX4_allCoins 0 := ⟨gX8_mean_X4_allCoins, ⟨_, rfl⟩, rfl, by decide +kernel, by decide +kernel, by decide +kernel⟩
set_option maxRecDepth 20000 in
theorem ggX8_mean_X4_allGrains : GoodIn wsX8_mean wsX4_allGrains := goodIn_r _ [28, 29, 30, 31, 6, 32, 16, 17, 18, 19, 20, 56] (by decide +kernel) (by decide +kernel)
set_option maxRecDepth 20000 in
theorem gX8_mean_X4_allGrains : GoodIn wsX8_mean (wsV RX8 228 RX4 yX4_allGrains wsX4_allGrains) := goodIn_app (goodIn_of _ (by decide +kernel)) ggX8_mean_X4_allGrains
theorem wX8_mean_228 : CWV mX8_mean 228 mX4_allGrains 0 := ⟨gX8_mean_X4_allGrains, ⟨_, rfl⟩, rfl, by decide +kernel, by decide +kernel, by decide +kernel⟩
abbrev mX8_shabby : mT := (yX8_shabby, RX8, cX8_shabby, 3, (some .int), wsX8_shabby)
abbrev rX8_shabby : Room := { frames := 5, cells := 0, slots := 0, locals := 110 }
theorem dX8_shabby_0 : decode cX8_shabby 0 = .ok (.iload_n 1, 1) := by decide +kernel
theorem dX8_shabby_1 : decode cX8_shabby 1 = .ok (.ifCond .lt 9, 3) := by decide +kernel
theorem dX8_shabby_4 : decode cX8_shabby 4 = .ok (.iload_n 1, 1) := by decide +kernel
theorem dX8_shabby_5 : decode cX8_shabby 5 = .ok (.bipush 100, 2) := by decide +kernel
theorem dX8_shabby_7 : decode cX8_shabby 7 = .ok (.if_icmp .le 5, 3) := by decide +kernel
theorem dX8_shabby_10 : decode cX8_shabby 10 = .ok (.iconst (-1), 1) := by decide +kernel
theorem dX8_shabby_11 : decode cX8_shabby 11 = .ok (.ireturn, 1) := by decide +kernel
theorem dX8_shabby_12 : decode cX8_shabby 12 = .ok (.iload_n 1, 1) := by decide +kernel
theorem dX8_shabby_13 : decode cX8_shabby 13 = .ok (.bipush 10, 2) := by decide +kernel
theorem dX8_shabby_15 : decode cX8_shabby 15 = .ok (.if_icmp .lt 13, 3) := by decide +kernel
theorem dX8_shabby_18 : decode cX8_shabby 18 = .ok (.aload_n 0, 1) := by decide +kernel
theorem dX8_shabby_19 : decode cX8_shabby 19 = .ok (.getfield 19, 3) := by decide +kernel
theorem dX8_shabby_22 : decode cX8_shabby 22 = .ok (.invokevirtual 225, 3) := by decide +kernel
theorem dX8_shabby_25 : decode cX8_shabby 25 = .ok (.ifCond .ne 6, 3) := by decide +kernel
theorem dX8_shabby_28 : decode cX8_shabby 28 = .ok (.bipush (-9), 2) := by decide +kernel
theorem dX8_shabby_30 : decode cX8_shabby 30 = .ok (.ireturn, 1) := by decide +kernel
theorem dX8_shabby_31 : decode cX8_shabby 31 = .ok (.aload_n 0, 1) := by decide +kernel
theorem dX8_shabby_32 : decode cX8_shabby 32 = .ok (.getfield 19, 3) := by decide +kernel
theorem dX8_shabby_35 : decode cX8_shabby 35 = .ok (.iload_n 1, 1) := by decide +kernel
theorem dX8_shabby_36 : decode cX8_shabby 36 = .ok (.invokevirtual 231, 3) := by decide +kernel
theorem dX8_shabby_39 : decode cX8_shabby 39 = .ok (.ifCond .eq 5, 3) := by decide +kernel
theorem dX8_shabby_42 : decode cX8_shabby 42 = .ok (.iconst 0, 1) := by decide +kernel
theorem dX8_shabby_43 : decode cX8_shabby 43 = .ok (.ireturn, 1) := by decide +kernel
theorem dX8_shabby_44 : decode cX8_shabby 44 = .ok (.aload_n 0, 1) := by decide +kernel
theorem dX8_shabby_45 : decode cX8_shabby 45 = .ok (.getfield 23, 3) := by decide +kernel
theorem dX8_shabby_48 : decode cX8_shabby 48 = .ok (.aload_n 0, 1) := by decide +kernel
theorem dX8_shabby_49 : decode cX8_shabby 49 = .ok (.getfield 19, 3) := by decide +kernel
theorem dX8_shabby_52 : decode cX8_shabby 52 = .ok (.invokevirtual 234, 3) := by decide +kernel
theorem dX8_shabby_55 : decode cX8_shabby 55 = .ok (.iconst 1, 1) := by decide +kernel
theorem dX8_shabby_56 : decode cX8_shabby 56 = .ok (.istore_n 2, 1) := by decide +kernel
theorem dX8_shabby_57 : decode cX8_shabby 57 = .ok (.iload_n 2, 1) := by decide +kernel
theorem dX8_shabby_58 : decode cX8_shabby 58 = .ok (.sipush 1000, 3) := by decide +kernel
theorem dX8_shabby_61 : decode cX8_shabby 61 = .ok (.if_icmp .gt 49, 3) := by decide +kernel
theorem dX8_shabby_64 : decode cX8_shabby 64 = .ok (.aload_n 0, 1) := by decide +kernel
theorem dX8_shabby_65 : decode cX8_shabby 65 = .ok (.getfield 29, 3) := by decide +kernel
theorem dX8_shabby_68 : decode cX8_shabby 68 = .ok (.iconst 5, 1) := by decide +kernel
theorem dX8_shabby_69 : decode cX8_shabby 69 = .ok (.invokevirtual 172, 3) := by decide +kernel
theorem dX8_shabby_72 : decode cX8_shabby 72 = .ok (.aload_n 0, 1) := by decide +kernel
theorem dX8_shabby_73 : decode cX8_shabby 73 = .ok (.getfield 75, 3) := by decide +kernel
theorem dX8_shabby_76 : decode cX8_shabby 76 = .ok (.iload_n 2, 1) := by decide +kernel
theorem dX8_shabby_77 : decode cX8_shabby 77 = .ok (.iadd, 1) := by decide +kernel
theorem dX8_shabby_78 : decode cX8_shabby 78 = .ok (.invokestatic 218, 3) := by decide +kernel
theorem dX8_shabby_81 : decode cX8_shabby 81 = .ok (.ifCond .eq 23, 3) := by decide +kernel
theorem dX8_shabby_84 : decode cX8_shabby 84 = .ok (.aload_n 0, 1) := by decide +kernel
theorem dX8_shabby_85 : decode cX8_shabby 85 = .ok (.getfield 23, 3) := by decide +kernel
theorem dX8_shabby_88 : decode cX8_shabby 88 = .ok (.invokevirtual 222, 3) := by decide +kernel
theorem dX8_shabby_91 : decode cX8_shabby 91 = .ok (.aload_n 0, 1) := by decide +kernel
theorem dX8_shabby_92 : decode cX8_shabby 92 = .ok (.getfield 23, 3) := by decide +kernel
theorem dX8_shabby_95 : decode cX8_shabby 95 = .ok (.iload_n 1, 1) := by decide +kernel
theorem dX8_shabby_96 : decode cX8_shabby 96 = .ok (.invokevirtual 231, 3) := by decide +kernel
theorem dX8_shabby_99 : decode cX8_shabby 99 = .ok (.ifCond .eq 5, 3) := by decide +kernel
theorem dX8_shabby_102 : decode cX8_shabby 102 = .ok (.iload_n 2, 1) := by decide +kernel
theorem dX8_shabby_103 : decode cX8_shabby 103 = .ok (.ireturn, 1) := by decide +kernel
theorem dX8_shabby_104 : decode cX8_shabby 104 = .ok (.iinc 2 1, 3) := by decide +kernel
theorem dX8_shabby_107 : decode cX8_shabby 107 = .ok (.goto (-50), 3) := by decide +kernel
theorem dX8_shabby_110 : decode cX8_shabby 110 = .ok (.bipush (-9), 2) := by decide +kernel
theorem dX8_shabby_112 : decode cX8_shabby 112 = .ok (.ireturn, 1) := by decide +kernel
theorem iX8_shabby_8 : ∀ w ∈ wsX80, w ∈ wsX8_shabby := fun w h => List.mem_cons_of_mem _ (List.mem_append_left _ (List.mem_append_left _ (List.mem_append_right _ h)))
theorem fX8_shabby_19 : FL mX8_shabby 19 8 1 := ⟨_, _, _, rfl, by decide, iX8_shabby_8, by decide +kernel⟩
theorem fX8_shabby_23 : FL mX8_shabby 23 8 2 := ⟨_, _, _, rfl, by decide, iX8_shabby_8, by decide +kernel⟩
theorem fX8_shabby_29 : FL mX8_shabby 29 8 3 := ⟨_, _, _, rfl, by decide, iX8_shabby_8, by decide +kernel⟩
theorem fX8_shabby_75 : FL mX8_shabby 75 8 11 := ⟨_, _, _, rfl, by decide, iX8_shabby_8, by decide +kernel⟩
set_option maxRecDepth 20000 in
theorem ggX8_shabby_X7_of : GoodIn wsX8_shabby wsX7_of := goodIn_r _ [48, 49, 80] (by decide +kernel) (by decide +kernel)
set_option maxRecDepth 20000 in
theorem gX8_shabby_X7_of : GoodIn wsX8_shabby (wsV RX8 172 RX7 yX7_of wsX7_of) := goodIn_app (goodIn_of _ (by decide +kernel)) ggX8_shabby_X7_of
theorem wX8_shabby_172 : CWV mX8_shabby 172 mX7_of 1 := ⟨gX8_shabby_X7_of, ⟨_, rfl⟩, rfl, by decide +kernel, by decide +kernel, by decide +kernel⟩
set_option maxRecDepth 20000 in
theorem ggX8_shabby_X8_divides : GoodIn wsX8_shabby wsX8_divides := goodIn_r _ [53] (by decide +kernel) (by decide +kernel)
set_option maxRecDepth 20000 in
theorem gX8_shabby_X8_divides : GoodIn wsX8_shabby (va_wsS RX8 218 yX8_divides wsX8_divides) := goodIn_app (goodIn_of _ (by decide +kernel)) ggX8_shabby_X8_divides
theorem wX8_shabby_218 : CWS mX8_shabby 218 mX8_divides 2 := ⟨gX8_shabby_X8_divides, ⟨_, rfl⟩, by decide +kernel, by decide +kernel, by decide +kernel⟩
set_option maxRecDepth 20000 in
theorem ggX8_shabby_X4_loseGrain : GoodIn wsX8_shabby wsX4_loseGrain := goodIn_r _ [57, 58, 59, 60, 61, 18, 19, 20, 8, 21, 22, 62, 63, 64, 65, 79] (by decide +kernel) (by decide +kernel)
set_option maxRecDepth 20000 in
theorem gX8_shabby_X4_loseGrain : GoodIn wsX8_shabby (wsV RX8 222 RX4 yX4_loseGrain wsX4_loseGrain) := goodIn_app (goodIn_of _ (by decide +kernel)) ggX8_shabby_X4_loseGrain
theorem wX8_shabby_222 : CWV mX8_shabby 222 mX4_loseGrain 0 := ⟨gX8_shabby_X4_loseGrain, ⟨_, rfl⟩, rfl, by decide +kernel, by decide +kernel, by decide +kernel⟩
set_option maxRecDepth 20000 in
theorem ggX8_shabby_X4_allCoins : GoodIn wsX8_shabby wsX4_allCoins := goodIn_r _ [9, 10, 11, 12, 8, 13, 14, 15, 16, 17, 18, 19, 20, 21, 22, 79] (by decide +kernel) (by decide +kernel)
set_option maxRecDepth 20000 in
theorem gX8_shabby_X4_allCoins : GoodIn wsX8_shabby (wsV RX8 225 RX4 yX4_allCoins wsX4_allCoins) := goodIn_app (goodIn_of _ (by decide +kernel)) ggX8_shabby_X4_allCoins
theorem wX8_shabby_225 : CWV mX8_shabby 225 mX4_allCoins 0 := ⟨gX8_shabby_X4_allCoins, ⟨_, rfl⟩, rfl, by decide +kernel, by decide +kernel, by decide +kernel⟩
set_option maxRecDepth 20000 in
theorem ggX8_shabby_X4_isShabby : GoodIn wsX8_shabby wsX4_isShabby := goodIn_r _ [26, 27, 28, 29, 8, 30, 31, 32, 33, 34, 18, 19, 20, 21, 22, 35, 6, 7, 9, 10, 11, 12, 13, 14, 15, 16, 17, 79] (by decide +kernel) (by decide +kernel)
set_option maxRecDepth 20000 in
theorem gX8_shabby_X4_isShabby : GoodIn wsX8_shabby (wsV RX8 231 RX4 yX4_isShabby wsX4_isShabby) := goodIn_app (goodIn_of _ (by decide +kernel)) ggX8_shabby_X4_isShabby
theorem wX8_shabby_231 : CWV mX8_shabby 231 mX4_isShabby 1 := ⟨gX8_shabby_X4_isShabby, ⟨_, rfl⟩, rfl, by decide +kernel, by decide +kernel, by decide +kernel⟩
set_option maxRecDepth 20000 in
theorem ggX8_shabby_X4_copyFrom : GoodIn wsX8_shabby wsX4_copyFrom := goodIn_r _ [39, 22, 40, 41, 42, 43, 79] (by decide +kernel) (by decide +kernel)
set_option maxRecDepth 20000 in
theorem gX8_shabby_X4_copyFrom : GoodIn wsX8_shabby (wsV RX8 234 RX4 yX4_copyFrom wsX4_copyFrom) := goodIn_app (goodIn_of _ (by decide +kernel)) ggX8_shabby_X4_copyFrom
theorem wX8_shabby_234 : CWV mX8_shabby 234 mX4_copyFrom 1 := ⟨gX8_shabby_X4_copyFrom, ⟨_, rfl⟩, rfl, by decide +kernel, by decide +kernel, by decide +kernel⟩
abbrev mX8_changer : mT := (yX8_changer, RX8, cX8_changer, 8, (some .int), wsX8_changer)
abbrev rX8_changer : Room := { frames := 3, cells := 0, slots := 0, locals := 69 }
theorem dX8_changer_0 : decode cX8_changer 0 = .ok (.aload_n 0, 1) := by decide +kernel
theorem dX8_changer_1 : decode cX8_changer 1 = .ok (.iload_n 1, 1) := by decide +kernel
theorem dX8_changer_2 : decode cX8_changer 2 = .ok (.invokevirtual 112, 3) := by decide +kernel
theorem dX8_changer_5 : decode cX8_changer 5 = .ok (.ifCond .eq 22, 3) := by decide +kernel
theorem dX8_changer_8 : decode cX8_changer 8 = .ok (.iload_n 2, 1) := by decide +kernel
theorem dX8_changer_9 : decode cX8_changer 9 = .ok (.ifCond .lt 18, 3) := by decide +kernel
theorem dX8_changer_12 : decode cX8_changer 12 = .ok (.iload_n 2, 1) := by decide +kernel
theorem dX8_changer_13 : decode cX8_changer 13 = .ok (.bipush 99, 2) := by decide +kernel
theorem dX8_changer_15 : decode cX8_changer 15 = .ok (.if_icmp .gt 12, 3) := by decide +kernel
theorem dX8_changer_18 : decode cX8_changer 18 = .ok (.iload_n 3, 1) := by decide +kernel
theorem dX8_changer_19 : decode cX8_changer 19 = .ok (.ifCond .lt 8, 3) := by decide +kernel
theorem dX8_changer_22 : decode cX8_changer 22 = .ok (.iload_n 3, 1) := by decide +kernel
theorem dX8_changer_23 : decode cX8_changer 23 = .ok (.iconst 1, 1) := by decide +kernel
theorem dX8_changer_24 : decode cX8_changer 24 = .ok (.if_icmp .le 5, 3) := by decide +kernel
theorem dX8_changer_27 : decode cX8_changer 27 = .ok (.iconst (-1), 1) := by decide +kernel
theorem dX8_changer_28 : decode cX8_changer 28 = .ok (.ireturn, 1) := by decide +kernel
theorem dX8_changer_29 : decode cX8_changer 29 = .ok (.iconst 0, 1) := by decide +kernel
theorem dX8_changer_30 : decode cX8_changer 30 = .ok (.istore 4, 2) := by decide +kernel
theorem dX8_changer_32 : decode cX8_changer 32 = .ok (.iconst (-1), 1) := by decide +kernel
theorem dX8_changer_33 : decode cX8_changer 33 = .ok (.istore 5, 2) := by decide +kernel
theorem dX8_changer_35 : decode cX8_changer 35 = .ok (.iconst 0, 1) := by decide +kernel
theorem dX8_changer_36 : decode cX8_changer 36 = .ok (.istore 6, 2) := by decide +kernel
theorem dX8_changer_38 : decode cX8_changer 38 = .ok (.iload 6, 2) := by decide +kernel
theorem dX8_changer_40 : decode cX8_changer 40 = .ok (.bipush 10, 2) := by decide +kernel
theorem dX8_changer_42 : decode cX8_changer 42 = .ok (.if_icmp .gt 34, 3) := by decide +kernel
theorem dX8_changer_45 : decode cX8_changer 45 = .ok (.aload_n 0, 1) := by decide +kernel
theorem dX8_changer_46 : decode cX8_changer 46 = .ok (.iload_n 1, 1) := by decide +kernel
theorem dX8_changer_47 : decode cX8_changer 47 = .ok (.iload 6, 2) := by decide +kernel
theorem dX8_changer_49 : decode cX8_changer 49 = .ok (.iload_n 2, 1) := by decide +kernel
theorem dX8_changer_50 : decode cX8_changer 50 = .ok (.invokevirtual 238, 3) := by decide +kernel
theorem dX8_changer_53 : decode cX8_changer 53 = .ok (.istore 7, 2) := by decide +kernel
theorem dX8_changer_55 : decode cX8_changer 55 = .ok (.iload 7, 2) := by decide +kernel
theorem dX8_changer_57 : decode cX8_changer 57 = .ok (.iload 5, 2) := by decide +kernel
theorem dX8_changer_59 : decode cX8_changer 59 = .ok (.if_icmp .lt 11, 3) := by decide +kernel
theorem dX8_changer_62 : decode cX8_changer 62 = .ok (.iload 7, 2) := by decide +kernel
theorem dX8_changer_64 : decode cX8_changer 64 = .ok (.istore 5, 2) := by decide +kernel
theorem dX8_changer_66 : decode cX8_changer 66 = .ok (.iload 6, 2) := by decide +kernel
theorem dX8_changer_68 : decode cX8_changer 68 = .ok (.istore 4, 2) := by decide +kernel
theorem dX8_changer_70 : decode cX8_changer 70 = .ok (.iinc 6 1, 3) := by decide +kernel
theorem dX8_changer_73 : decode cX8_changer 73 = .ok (.goto (-35), 3) := by decide +kernel
theorem dX8_changer_76 : decode cX8_changer 76 = .ok (.iload_n 3, 1) := by decide +kernel
theorem dX8_changer_77 : decode cX8_changer 77 = .ok (.ifCond .ne 8, 3) := by decide +kernel
theorem dX8_changer_80 : decode cX8_changer 80 = .ok (.iload 4, 2) := by decide +kernel
theorem dX8_changer_82 : decode cX8_changer 82 = .ok (.goto 5, 3) := by decide +kernel
theorem dX8_changer_85 : decode cX8_changer 85 = .ok (.iload 5, 2) := by decide +kernel
theorem dX8_changer_87 : decode cX8_changer 87 = .ok (.ireturn, 1) := by decide +kernel
set_option maxRecDepth 20000 in
theorem ggX8_changer_X8_isPerson : GoodIn wsX8_changer wsX8_isPerson := goodIn_r _ [5, 6, 7, 30, 31, 32, 33, 34, 35, 36, 37, 38, 39, 40, 41, 42, 43, 44, 45, 46, 47] (by decide +kernel) (by decide +kernel)
set_option maxRecDepth 20000 in
theorem gX8_changer_X8_isPerson : GoodIn wsX8_changer (wsV RX8 112 RX8 yX8_isPerson wsX8_isPerson) := goodIn_app (goodIn_of _ (by decide +kernel)) ggX8_changer_X8_isPerson
theorem wX8_changer_112 : CWV mX8_changer 112 mX8_isPerson 1 := ⟨gX8_changer_X8_isPerson, ⟨_, rfl⟩, rfl, by decide +kernel, by decide +kernel, by decide +kernel⟩
set_option maxRecDepth 20000 in
theorem ggX8_changer_X8_heldAtWhenMelted : GoodIn wsX8_changer wsX8_heldAtWhenMelted := goodIn_r _ [11, 12, 13, 14, 15, 16, 17, 18, 19, 20, 21, 4, 22, 23, 24, 25, 26, 27, 28, 29, 30, 31, 32, 33, 34, 35, 36, 37, 38, 39, 40, 41, 42, 48, 49] (by decide +kernel) (by decide +kernel)
set_option maxRecDepth 20000 in
theorem gX8_changer_X8_heldAtWhenMelted : GoodIn wsX8_changer (wsV RX8 238 RX8 yX8_heldAtWhenMelted wsX8_heldAtWhenMelted) := goodIn_app (goodIn_of _ (by decide +kernel)) ggX8_changer_X8_heldAtWhenMelted
theorem wX8_changer_238 : CWV mX8_changer 238 mX8_heldAtWhenMelted 3 := ⟨gX8_changer_X8_heldAtWhenMelted, ⟨_, rfl⟩, rfl, by decide +kernel, by decide +kernel, by decide +kernel⟩
abbrev mX8_law : mT := (yX8_law, RX8, cX8_law, 4, (some .int), wsX8_law)
abbrev rX8_law : Room := { frames := 1, cells := 0, slots := 0, locals := 24 }
theorem dX8_law_0 : decode cX8_law 0 = .ok (.aload_n 0, 1) := by decide +kernel
theorem dX8_law_1 : decode cX8_law 1 = .ok (.getfield 50, 3) := by decide +kernel
theorem dX8_law_4 : decode cX8_law 4 = .ok (.iload_n 1, 1) := by decide +kernel
theorem dX8_law_5 : decode cX8_law 5 = .ok (.iload_n 2, 1) := by decide +kernel
theorem dX8_law_6 : decode cX8_law 6 = .ok (.iload_n 3, 1) := by decide +kernel
theorem dX8_law_7 : decode cX8_law 7 = .ok (.invokevirtual 242, 3) := by decide +kernel
theorem dX8_law_10 : decode cX8_law 10 = .ok (.ireturn, 1) := by decide +kernel
theorem iX8_law_8 : ∀ w ∈ wsX80, w ∈ wsX8_law := fun w h => List.mem_cons_of_mem _ (List.mem_append_left _ (List.mem_append_right _ h))
theorem fX8_law_50 : FL mX8_law 50 8 6 := ⟨_, _, _, rfl, by decide, iX8_law_8, by decide +kernel⟩
set_option maxRecDepth 20000 in
theorem ggX8_law_X2_set : GoodIn wsX8_law wsX2_set := goodIn_r _ [6, 7, 21] (by decide +kernel) (by decide +kernel)
set_option maxRecDepth 20000 in
theorem gX8_law_X2_set : GoodIn wsX8_law (wsV RX8 242 RX2 yX2_set wsX2_set) := goodIn_app (goodIn_of _ (by decide +kernel)) ggX8_law_X2_set
theorem wX8_law_242 : CWV mX8_law 242 mX2_set 3 := ⟨gX8_law_X2_set, ⟨_, rfl⟩, rfl, by decide +kernel, by decide +kernel, by decide +kernel⟩
abbrev mX8_cheapest : mT := (yX8_cheapest, RX8, cX8_cheapest, 5, (some .int), wsX8_cheapest)
abbrev rX8_cheapest : Room := { frames := 2, cells := 0, slots := 0, locals := 50 }
theorem dX8_cheapest_0 : decode cX8_cheapest 0 = .ok (.iload_n 1, 1) := by decide +kernel
theorem dX8_cheapest_1 : decode cX8_cheapest 1 = .ok (.ifCond .lt 30, 3) := by decide +kernel
theorem dX8_cheapest_4 : decode cX8_cheapest 4 = .ok (.iload_n 1, 1) := by decide +kernel
theorem dX8_cheapest_5 : decode cX8_cheapest 5 = .ok (.sipush 999, 3) := by decide +kernel
theorem dX8_cheapest_8 : decode cX8_cheapest 8 = .ok (.if_icmp .gt 23, 3) := by decide +kernel
theorem dX8_cheapest_11 : decode cX8_cheapest 11 = .ok (.iload_n 2, 1) := by decide +kernel
theorem dX8_cheapest_12 : decode cX8_cheapest 12 = .ok (.ifCond .lt 19, 3) := by decide +kernel
theorem dX8_cheapest_15 : decode cX8_cheapest 15 = .ok (.iload_n 2, 1) := by decide +kernel
theorem dX8_cheapest_16 : decode cX8_cheapest 16 = .ok (.sipush 999, 3) := by decide +kernel
theorem dX8_cheapest_19 : decode cX8_cheapest 19 = .ok (.if_icmp .gt 12, 3) := by decide +kernel
theorem dX8_cheapest_22 : decode cX8_cheapest 22 = .ok (.iload_n 3, 1) := by decide +kernel
theorem dX8_cheapest_23 : decode cX8_cheapest 23 = .ok (.ifCond .lt 8, 3) := by decide +kernel
theorem dX8_cheapest_26 : decode cX8_cheapest 26 = .ok (.iload_n 3, 1) := by decide +kernel
theorem dX8_cheapest_27 : decode cX8_cheapest 27 = .ok (.iconst 1, 1) := by decide +kernel
theorem dX8_cheapest_28 : decode cX8_cheapest 28 = .ok (.if_icmp .le 5, 3) := by decide +kernel
theorem dX8_cheapest_31 : decode cX8_cheapest 31 = .ok (.iconst (-1), 1) := by decide +kernel
theorem dX8_cheapest_32 : decode cX8_cheapest 32 = .ok (.ireturn, 1) := by decide +kernel
theorem dX8_cheapest_33 : decode cX8_cheapest 33 = .ok (.aload_n 0, 1) := by decide +kernel
theorem dX8_cheapest_34 : decode cX8_cheapest 34 = .ok (.getfield 50, 3) := by decide +kernel
theorem dX8_cheapest_37 : decode cX8_cheapest 37 = .ok (.aload_n 0, 1) := by decide +kernel
theorem dX8_cheapest_38 : decode cX8_cheapest 38 = .ok (.getfield 29, 3) := by decide +kernel
theorem dX8_cheapest_41 : decode cX8_cheapest 41 = .ok (.iconst 1, 1) := by decide +kernel
theorem dX8_cheapest_42 : decode cX8_cheapest 42 = .ok (.invokevirtual 172, 3) := by decide +kernel
theorem dX8_cheapest_45 : decode cX8_cheapest 45 = .ok (.iload_n 1, 1) := by decide +kernel
theorem dX8_cheapest_46 : decode cX8_cheapest 46 = .ok (.isub, 1) := by decide +kernel
theorem dX8_cheapest_47 : decode cX8_cheapest 47 = .ok (.iload_n 2, 1) := by decide +kernel
theorem dX8_cheapest_48 : decode cX8_cheapest 48 = .ok (.aload_n 0, 1) := by decide +kernel
theorem dX8_cheapest_49 : decode cX8_cheapest 49 = .ok (.getfield 29, 3) := by decide +kernel
theorem dX8_cheapest_52 : decode cX8_cheapest 52 = .ok (.iconst 2, 1) := by decide +kernel
theorem dX8_cheapest_53 : decode cX8_cheapest 53 = .ok (.invokevirtual 172, 3) := by decide +kernel
theorem dX8_cheapest_56 : decode cX8_cheapest 56 = .ok (.isub, 1) := by decide +kernel
theorem dX8_cheapest_57 : decode cX8_cheapest 57 = .ok (.invokevirtual 244, 3) := by decide +kernel
theorem dX8_cheapest_60 : decode cX8_cheapest 60 = .ok (.istore 4, 2) := by decide +kernel
theorem dX8_cheapest_62 : decode cX8_cheapest 62 = .ok (.iload 4, 2) := by decide +kernel
theorem dX8_cheapest_64 : decode cX8_cheapest 64 = .ok (.bipush (-9), 2) := by decide +kernel
theorem dX8_cheapest_66 : decode cX8_cheapest 66 = .ok (.if_icmp .eq 8, 3) := by decide +kernel
theorem dX8_cheapest_69 : decode cX8_cheapest 69 = .ok (.iload_n 3, 1) := by decide +kernel
theorem dX8_cheapest_70 : decode cX8_cheapest 70 = .ok (.iconst 1, 1) := by decide +kernel
theorem dX8_cheapest_71 : decode cX8_cheapest 71 = .ok (.if_icmp .ne 6, 3) := by decide +kernel
theorem dX8_cheapest_74 : decode cX8_cheapest 74 = .ok (.iload 4, 2) := by decide +kernel
theorem dX8_cheapest_76 : decode cX8_cheapest 76 = .ok (.ireturn, 1) := by decide +kernel
theorem dX8_cheapest_77 : decode cX8_cheapest 77 = .ok (.aload_n 0, 1) := by decide +kernel
theorem dX8_cheapest_78 : decode cX8_cheapest 78 = .ok (.getfield 50, 3) := by decide +kernel
theorem dX8_cheapest_81 : decode cX8_cheapest 81 = .ok (.iload 4, 2) := by decide +kernel
theorem dX8_cheapest_83 : decode cX8_cheapest 83 = .ok (.iconst 0, 1) := by decide +kernel
theorem dX8_cheapest_84 : decode cX8_cheapest 84 = .ok (.invokevirtual 247, 3) := by decide +kernel
theorem dX8_cheapest_87 : decode cX8_cheapest 87 = .ok (.ireturn, 1) := by decide +kernel
theorem iX8_cheapest_8 : ∀ w ∈ wsX80, w ∈ wsX8_cheapest := fun w h => List.mem_cons_of_mem _ (List.mem_append_left _ (List.mem_append_left _ (List.mem_append_right _ h)))
theorem fX8_cheapest_29 : FL mX8_cheapest 29 8 3 := ⟨_, _, _, rfl, by decide, iX8_cheapest_8, by decide +kernel⟩
theorem fX8_cheapest_50 : FL mX8_cheapest 50 8 6 := ⟨_, _, _, rfl, by decide, iX8_cheapest_8, by decide +kernel⟩
set_option maxRecDepth 20000 in
theorem ggX8_cheapest_X7_of : GoodIn wsX8_cheapest wsX7_of := goodIn_r _ [7, 8, 34] (by decide +kernel) (by decide +kernel)
set_option maxRecDepth 20000 in
theorem gX8_cheapest_X7_of : GoodIn wsX8_cheapest (wsV RX8 172 RX7 yX7_of wsX7_of) := goodIn_app (goodIn_of _ (by decide +kernel)) ggX8_cheapest_X7_of
theorem wX8_cheapest_172 : CWV mX8_cheapest 172 mX7_of 1 := ⟨gX8_cheapest_X7_of, ⟨_, rfl⟩, rfl, by decide +kernel, by decide +kernel, by decide +kernel⟩
set_option maxRecDepth 20000 in
theorem ggX8_cheapest_X2_cheapestSet : GoodIn wsX8_cheapest wsX2_cheapestSet := goodIn_r _ [13, 14, 15, 16, 17, 12, 18, 19, 35] (by decide +kernel) (by decide +kernel)
set_option maxRecDepth 20000 in
theorem gX8_cheapest_X2_cheapestSet : GoodIn wsX8_cheapest (wsV RX8 244 RX2 yX2_cheapestSet wsX2_cheapestSet) := goodIn_app (goodIn_of _ (by decide +kernel)) ggX8_cheapest_X2_cheapestSet
theorem wX8_cheapest_244 : CWV mX8_cheapest 244 mX2_cheapestSet 2 := ⟨gX8_cheapest_X2_cheapestSet, ⟨_, rfl⟩, rfl, by decide +kernel, by decide +kernel, by decide +kernel⟩
set_option maxRecDepth 20000 in
theorem ggX8_cheapest_X2_sumOf : GoodIn wsX8_cheapest wsX2_sumOf := goodIn_r _ [18, 19, 35] (by decide +kernel) (by decide +kernel)
set_option maxRecDepth 20000 in
theorem gX8_cheapest_X2_sumOf : GoodIn wsX8_cheapest (wsV RX8 247 RX2 yX2_sumOf wsX2_sumOf) := goodIn_app (goodIn_of _ (by decide +kernel)) ggX8_cheapest_X2_sumOf
theorem wX8_cheapest_247 : CWV mX8_cheapest 247 mX2_sumOf 2 := ⟨gX8_cheapest_X2_sumOf, ⟨_, rfl⟩, rfl, by decide +kernel, by decide +kernel, by decide +kernel⟩
abbrev mX8_first : mT := (yX8_first, RX8, cX8_first, 3, (some .int), wsX8_first)
abbrev rX8_first : Room := { frames := 3, cells := 0, slots := 0, locals := 68 }
theorem dX8_first_0 : decode cX8_first 0 = .ok (.iload_n 1, 1) := by decide +kernel
theorem dX8_first_1 : decode cX8_first 1 = .ok (.ifCond .lt 19, 3) := by decide +kernel
theorem dX8_first_4 : decode cX8_first 4 = .ok (.iload_n 1, 1) := by decide +kernel
theorem dX8_first_5 : decode cX8_first 5 = .ok (.sipush 255, 3) := by decide +kernel
theorem dX8_first_8 : decode cX8_first 8 = .ok (.if_icmp .gt 12, 3) := by decide +kernel
theorem dX8_first_11 : decode cX8_first 11 = .ok (.iload_n 2, 1) := by decide +kernel
theorem dX8_first_12 : decode cX8_first 12 = .ok (.ifCond .lt 8, 3) := by decide +kernel
theorem dX8_first_15 : decode cX8_first 15 = .ok (.iload_n 2, 1) := by decide +kernel
theorem dX8_first_16 : decode cX8_first 16 = .ok (.iconst 1, 1) := by decide +kernel
theorem dX8_first_17 : decode cX8_first 17 = .ok (.if_icmp .le 5, 3) := by decide +kernel
theorem dX8_first_20 : decode cX8_first 20 = .ok (.iconst (-1), 1) := by decide +kernel
theorem dX8_first_21 : decode cX8_first 21 = .ok (.ireturn, 1) := by decide +kernel
theorem dX8_first_22 : decode cX8_first 22 = .ok (.iload_n 2, 1) := by decide +kernel
theorem dX8_first_23 : decode cX8_first 23 = .ok (.ifCond .ne 14, 3) := by decide +kernel
theorem dX8_first_26 : decode cX8_first 26 = .ok (.aload_n 0, 1) := by decide +kernel
theorem dX8_first_27 : decode cX8_first 27 = .ok (.getfield 64, 3) := by decide +kernel
theorem dX8_first_30 : decode cX8_first 30 = .ok (.iload_n 1, 1) := by decide +kernel
theorem dX8_first_31 : decode cX8_first 31 = .ok (.invokevirtual 250, 3) := by decide +kernel
theorem dX8_first_34 : decode cX8_first 34 = .ok (.goto 11, 3) := by decide +kernel
theorem dX8_first_37 : decode cX8_first 37 = .ok (.aload_n 0, 1) := by decide +kernel
theorem dX8_first_38 : decode cX8_first 38 = .ok (.getfield 64, 3) := by decide +kernel
theorem dX8_first_41 : decode cX8_first 41 = .ok (.iload_n 1, 1) := by decide +kernel
theorem dX8_first_42 : decode cX8_first 42 = .ok (.invokevirtual 253, 3) := by decide +kernel
theorem dX8_first_45 : decode cX8_first 45 = .ok (.ireturn, 1) := by decide +kernel
theorem iX8_first_8 : ∀ w ∈ wsX80, w ∈ wsX8_first := fun w h => List.mem_cons_of_mem _ (List.mem_append_left _ (List.mem_append_right _ h))
theorem fX8_first_64 : FL mX8_first 64 8 8 := ⟨_, _, _, rfl, by decide, iX8_first_8, by decide +kernel⟩
set_option maxRecDepth 20000 in
theorem ggX8_first_X6_takersFrom : GoodIn wsX8_first wsX6_takersFrom := goodIn_r _ [6, 7, 8, 9, 5, 10, 11, 12, 13, 14, 15, 16, 17, 18, 19, 20, 21, 22, 23, 41, 42, 43, 44, 45] (by decide +kernel) (by decide +kernel)
set_option maxRecDepth 20000 in
theorem gX8_first_X6_takersFrom : GoodIn wsX8_first (wsV RX8 250 RX6 yX6_takersFrom wsX6_takersFrom) := goodIn_app (goodIn_of _ (by decide +kernel)) ggX8_first_X6_takersFrom
theorem wX8_first_250 : CWV mX8_first 250 mX6_takersFrom 1 := ⟨gX8_first_X6_takersFrom, ⟨_, rfl⟩, rfl, by decide +kernel, by decide +kernel, by decide +kernel⟩
set_option maxRecDepth 20000 in
theorem ggX8_first_X6_roundsFrom : GoodIn wsX8_first wsX6_roundsFrom := goodIn_r _ [27, 7, 8, 9, 5, 10, 11, 12, 13, 14, 15, 16, 17, 18, 19, 20, 21, 22, 23, 41, 42, 43, 44, 45] (by decide +kernel) (by decide +kernel)
set_option maxRecDepth 20000 in
theorem gX8_first_X6_roundsFrom : GoodIn wsX8_first (wsV RX8 253 RX6 yX6_roundsFrom wsX6_roundsFrom) := goodIn_app (goodIn_of _ (by decide +kernel)) ggX8_first_X6_roundsFrom
theorem wX8_first_253 : CWV mX8_first 253 mX6_roundsFrom 1 := ⟨gX8_first_X6_roundsFrom, ⟨_, rfl⟩, rfl, by decide +kernel, by decide +kernel, by decide +kernel⟩
abbrev mX8_seeds : mT := (yX8_seeds, RX8, cX8_seeds, 3, (some .int), wsX8_seeds)
abbrev rX8_seeds : Room := { frames := 4, cells := 0, slots := 0, locals := 90 }
theorem dX8_seeds_0 : decode cX8_seeds 0 = .ok (.iload_n 1, 1) := by decide +kernel
theorem dX8_seeds_1 : decode cX8_seeds 1 = .ok (.ifCond .lt 8, 3) := by decide +kernel
theorem dX8_seeds_4 : decode cX8_seeds 4 = .ok (.iload_n 1, 1) := by decide +kernel
theorem dX8_seeds_5 : decode cX8_seeds 5 = .ok (.iconst 1, 1) := by decide +kernel
theorem dX8_seeds_6 : decode cX8_seeds 6 = .ok (.if_icmp .le 5, 3) := by decide +kernel
theorem dX8_seeds_9 : decode cX8_seeds 9 = .ok (.iconst (-1), 1) := by decide +kernel
theorem dX8_seeds_10 : decode cX8_seeds 10 = .ok (.ireturn, 1) := by decide +kernel
theorem dX8_seeds_11 : decode cX8_seeds 11 = .ok (.aload_n 0, 1) := by decide +kernel
theorem dX8_seeds_12 : decode cX8_seeds 12 = .ok (.getfield 64, 3) := by decide +kernel
theorem dX8_seeds_15 : decode cX8_seeds 15 = .ok (.invokevirtual 256, 3) := by decide +kernel
theorem dX8_seeds_18 : decode cX8_seeds 18 = .ok (.istore_n 2, 1) := by decide +kernel
theorem dX8_seeds_19 : decode cX8_seeds 19 = .ok (.iload_n 1, 1) := by decide +kernel
theorem dX8_seeds_20 : decode cX8_seeds 20 = .ok (.ifCond .ne 10, 3) := by decide +kernel
theorem dX8_seeds_23 : decode cX8_seeds 23 = .ok (.iload_n 2, 1) := by decide +kernel
theorem dX8_seeds_24 : decode cX8_seeds 24 = .ok (.invokestatic 259, 3) := by decide +kernel
theorem dX8_seeds_27 : decode cX8_seeds 27 = .ok (.goto 4, 3) := by decide +kernel
theorem dX8_seeds_30 : decode cX8_seeds 30 = .ok (.iload_n 2, 1) := by decide +kernel
theorem dX8_seeds_31 : decode cX8_seeds 31 = .ok (.ireturn, 1) := by decide +kernel
theorem iX8_seeds_8 : ∀ w ∈ wsX80, w ∈ wsX8_seeds := fun w h => List.mem_cons_of_mem _ (List.mem_append_left _ (List.mem_append_right _ h))
theorem fX8_seeds_64 : FL mX8_seeds 64 8 8 := ⟨_, _, _, rfl, by decide, iX8_seeds_8, by decide +kernel⟩
set_option maxRecDepth 20000 in
theorem ggX8_seeds_X6_leastSeeds : GoodIn wsX8_seeds wsX6_leastSeeds := goodIn_r _ [6, 7, 8, 9, 5, 10, 11, 12, 13, 14, 15, 16, 17, 18, 19, 20, 21, 22, 23, 24, 25, 26, 27, 42, 43, 44, 45, 46] (by decide +kernel) (by decide +kernel)
set_option maxRecDepth 20000 in
theorem gX8_seeds_X6_leastSeeds : GoodIn wsX8_seeds (wsV RX8 256 RX6 yX6_leastSeeds wsX6_leastSeeds) := goodIn_app (goodIn_of _ (by decide +kernel)) ggX8_seeds_X6_leastSeeds
theorem wX8_seeds_256 : CWV mX8_seeds 256 mX6_leastSeeds 0 := ⟨gX8_seeds_X6_leastSeeds, ⟨_, rfl⟩, rfl, by decide +kernel, by decide +kernel, by decide +kernel⟩
set_option maxRecDepth 20000 in
theorem ggX8_seeds_J6_bitCount_0f7a4 : GoodIn wsX8_seeds wsJ6_bitCount_0f7a4 := goodIn_r _ [15, 16, 17, 18] (by decide +kernel) (by decide +kernel)
set_option maxRecDepth 20000 in
theorem gX8_seeds_J6_bitCount_0f7a4 : GoodIn wsX8_seeds (va_wsS RX8 259 yJ6_bitCount_0f7a4 wsJ6_bitCount_0f7a4) := goodIn_app (goodIn_of _ (by decide +kernel)) ggX8_seeds_J6_bitCount_0f7a4
theorem wX8_seeds_259 : CWS mX8_seeds 259 mJ6_bitCount_0f7a4 1 := ⟨gX8_seeds_J6_bitCount_0f7a4, ⟨_, rfl⟩, by decide +kernel, by decide +kernel, by decide +kernel⟩
abbrev mX8_labour : mT := (yX8_labour, RX8, cX8_labour, 3, (some .int), wsX8_labour)
abbrev rX8_labour : Room := { frames := 6, cells := 0, slots := 0, locals := 130 }
theorem dX8_labour_0 : decode cX8_labour 0 = .ok (.aload_n 0, 1) := by decide +kernel
theorem dX8_labour_1 : decode cX8_labour 1 = .ok (.iload_n 2, 1) := by decide +kernel
theorem dX8_labour_2 : decode cX8_labour 2 = .ok (.invokevirtual 112, 3) := by decide +kernel
theorem dX8_labour_5 : decode cX8_labour 5 = .ok (.ifCond .ne 5, 3) := by decide +kernel
theorem dX8_labour_8 : decode cX8_labour 8 = .ok (.iconst (-1), 1) := by decide +kernel
theorem dX8_labour_9 : decode cX8_labour 9 = .ok (.ireturn, 1) := by decide +kernel
theorem dX8_labour_10 : decode cX8_labour 10 = .ok (.iload_n 1, 1) := by decide +kernel
theorem dX8_labour_11 : decode cX8_labour 11 = .ok (.tableswitch 83 0 6 #[41, 47, 53, 59, 65, 71, 77], 41) := by decide +kernel
theorem dX8_labour_52 : decode cX8_labour 52 = .ok (.aload_n 0, 1) := by decide +kernel
theorem dX8_labour_53 : decode cX8_labour 53 = .ok (.iload_n 2, 1) := by decide +kernel
theorem dX8_labour_54 : decode cX8_labour 54 = .ok (.invokevirtual 264, 3) := by decide +kernel
theorem dX8_labour_57 : decode cX8_labour 57 = .ok (.ireturn, 1) := by decide +kernel
theorem dX8_labour_58 : decode cX8_labour 58 = .ok (.aload_n 0, 1) := by decide +kernel
theorem dX8_labour_59 : decode cX8_labour 59 = .ok (.iload_n 2, 1) := by decide +kernel
theorem dX8_labour_60 : decode cX8_labour 60 = .ok (.invokevirtual 267, 3) := by decide +kernel
theorem dX8_labour_63 : decode cX8_labour 63 = .ok (.ireturn, 1) := by decide +kernel
theorem dX8_labour_64 : decode cX8_labour 64 = .ok (.aload_n 0, 1) := by decide +kernel
theorem dX8_labour_65 : decode cX8_labour 65 = .ok (.iload_n 2, 1) := by decide +kernel
theorem dX8_labour_66 : decode cX8_labour 66 = .ok (.invokevirtual 270, 3) := by decide +kernel
theorem dX8_labour_69 : decode cX8_labour 69 = .ok (.ireturn, 1) := by decide +kernel
theorem dX8_labour_70 : decode cX8_labour 70 = .ok (.aload_n 0, 1) := by decide +kernel
theorem dX8_labour_71 : decode cX8_labour 71 = .ok (.iload_n 2, 1) := by decide +kernel
theorem dX8_labour_72 : decode cX8_labour 72 = .ok (.invokevirtual 273, 3) := by decide +kernel
theorem dX8_labour_75 : decode cX8_labour 75 = .ok (.ireturn, 1) := by decide +kernel
theorem dX8_labour_76 : decode cX8_labour 76 = .ok (.aload_n 0, 1) := by decide +kernel
theorem dX8_labour_77 : decode cX8_labour 77 = .ok (.iload_n 2, 1) := by decide +kernel
theorem dX8_labour_78 : decode cX8_labour 78 = .ok (.invokevirtual 276, 3) := by decide +kernel
theorem dX8_labour_81 : decode cX8_labour 81 = .ok (.ireturn, 1) := by decide +kernel
theorem dX8_labour_82 : decode cX8_labour 82 = .ok (.aload_n 0, 1) := by decide +kernel
theorem dX8_labour_83 : decode cX8_labour 83 = .ok (.iload_n 2, 1) := by decide +kernel
theorem dX8_labour_84 : decode cX8_labour 84 = .ok (.invokevirtual 279, 3) := by decide +kernel
theorem dX8_labour_87 : decode cX8_labour 87 = .ok (.ireturn, 1) := by decide +kernel
theorem dX8_labour_88 : decode cX8_labour 88 = .ok (.aload_n 0, 1) := by decide +kernel
theorem dX8_labour_89 : decode cX8_labour 89 = .ok (.iload_n 2, 1) := by decide +kernel
theorem dX8_labour_90 : decode cX8_labour 90 = .ok (.invokevirtual 282, 3) := by decide +kernel
theorem dX8_labour_93 : decode cX8_labour 93 = .ok (.ireturn, 1) := by decide +kernel
theorem dX8_labour_94 : decode cX8_labour 94 = .ok (.iconst (-1), 1) := by decide +kernel
theorem dX8_labour_95 : decode cX8_labour 95 = .ok (.ireturn, 1) := by decide +kernel
set_option maxRecDepth 20000 in
theorem ggX8_labour_X8_isPerson : GoodIn wsX8_labour wsX8_isPerson := goodIn_r _ [5, 6, 7, 69, 70, 71, 72, 73, 74, 75, 76, 77, 78, 79, 80, 81, 82, 83, 84, 85, 86] (by decide +kernel) (by decide +kernel)
set_option maxRecDepth 20000 in
theorem gX8_labour_X8_isPerson : GoodIn wsX8_labour (wsV RX8 112 RX8 yX8_isPerson wsX8_isPerson) := goodIn_app (goodIn_of _ (by decide +kernel)) ggX8_labour_X8_isPerson
theorem wX8_labour_112 : CWV mX8_labour 112 mX8_isPerson 1 := ⟨gX8_labour_X8_isPerson, ⟨_, rfl⟩, rfl, by decide +kernel, by decide +kernel, by decide +kernel⟩
set_option maxRecDepth 20000 in
theorem ggX8_labour_X8_asWay : GoodIn wsX8_labour wsX8_asWay := goodIn_r _ [11, 12, 13, 14, 15, 16, 17, 18, 19, 20, 21, 22, 23, 24, 25, 26, 27, 69, 70, 71, 72, 73, 74, 75, 76, 77, 78, 79, 80, 81, 87] (by decide +kernel) (by decide +kernel)
set_option maxRecDepth 20000 in
theorem gX8_labour_X8_asWay : GoodIn wsX8_labour (wsV RX8 264 RX8 yX8_asWay wsX8_asWay) := goodIn_app (goodIn_of _ (by decide +kernel)) ggX8_labour_X8_asWay
theorem wX8_labour_264 : CWV mX8_labour 264 mX8_asWay 1 := ⟨gX8_labour_X8_asWay, ⟨_, rfl⟩, rfl, by decide +kernel, by decide +kernel, by decide +kernel⟩
set_option maxRecDepth 20000 in
theorem ggX8_labour_X8_asTale : GoodIn wsX8_labour wsX8_asTale := goodIn_r _ [31, 12, 32, 8, 9, 10, 4, 11, 13, 14, 15, 16, 17, 18, 19, 20, 21, 22, 23, 24, 25, 26, 27, 69, 70, 71, 72, 73, 74, 75, 76, 77, 78, 79, 80, 81, 87] (by decide +kernel) (by decide +kernel)
set_option maxRecDepth 20000 in
theorem gX8_labour_X8_asTale : GoodIn wsX8_labour (wsV RX8 267 RX8 yX8_asTale wsX8_asTale) := goodIn_app (goodIn_of _ (by decide +kernel)) ggX8_labour_X8_asTale
theorem wX8_labour_267 : CWV mX8_labour 267 mX8_asTale 1 := ⟨gX8_labour_X8_asTale, ⟨_, rfl⟩, rfl, by decide +kernel, by decide +kernel, by decide +kernel⟩
set_option maxRecDepth 20000 in
theorem ggX8_labour_X8_asLook : GoodIn wsX8_labour wsX8_asLook := goodIn_r _ [36, 12, 37, 38, 13, 8, 9, 10, 4, 11, 14, 15, 16, 17, 18, 19, 20, 21, 22, 23, 24, 25, 26, 27, 39, 40, 41, 42, 43, 44, 45, 69, 70, 71, 72, 73, 74, 75, 76, 77, 78, 79, 80, 81, 87, 88] (by decide +kernel) (by decide +kernel)
set_option maxRecDepth 20000 in
theorem gX8_labour_X8_asLook : GoodIn wsX8_labour (wsV RX8 270 RX8 yX8_asLook wsX8_asLook) := goodIn_app (goodIn_of _ (by decide +kernel)) ggX8_labour_X8_asLook
theorem wX8_labour_270 : CWV mX8_labour 270 mX8_asLook 1 := ⟨gX8_labour_X8_asLook, ⟨_, rfl⟩, rfl, by decide +kernel, by decide +kernel, by decide +kernel⟩
set_option maxRecDepth 20000 in
theorem ggX8_labour_X8_asSome : GoodIn wsX8_labour wsX8_asSome := goodIn_r _ [49, 12, 50, 6, 51, 33, 34, 35, 4, 36, 37, 38, 13, 8, 9, 10, 11, 14, 15, 16, 17, 18, 19, 20, 21, 22, 23, 24, 25, 26, 27, 39, 40, 41, 42, 43, 44, 45, 69, 70, 71, 72, 73, 74, 75, 76, 77, 78, 79, 80, 81, 82, 83, 84, 85, 86, 87, 88] (by decide +kernel) (by decide +kernel)
set_option maxRecDepth 20000 in
theorem gX8_labour_X8_asSome : GoodIn wsX8_labour (wsV RX8 273 RX8 yX8_asSome wsX8_asSome) := goodIn_app (goodIn_of _ (by decide +kernel)) ggX8_labour_X8_asSome
theorem wX8_labour_273 : CWV mX8_labour 273 mX8_asSome 1 := ⟨gX8_labour_X8_asSome, ⟨_, rfl⟩, rfl, by decide +kernel, by decide +kernel, by decide +kernel⟩
set_option maxRecDepth 20000 in
theorem ggX8_labour_X8_asPay : GoodIn wsX8_labour wsX8_asPay := goodIn_r _ [55, 12, 56, 13, 8, 9, 10, 4, 11, 14, 15, 16, 17, 18, 19, 20, 21, 22, 23, 24, 25, 26, 27, 57, 69, 70, 71, 72, 73, 74, 75, 76, 77, 78, 79, 80, 81, 87] (by decide +kernel) (by decide +kernel)
set_option maxRecDepth 20000 in
theorem gX8_labour_X8_asPay : GoodIn wsX8_labour (wsV RX8 276 RX8 yX8_asPay wsX8_asPay) := goodIn_app (goodIn_of _ (by decide +kernel)) ggX8_labour_X8_asPay
theorem wX8_labour_276 : CWV mX8_labour 276 mX8_asPay 1 := ⟨gX8_labour_X8_asPay, ⟨_, rfl⟩, rfl, by decide +kernel, by decide +kernel, by decide +kernel⟩
set_option maxRecDepth 20000 in
theorem ggX8_labour_X8_asKeep : GoodIn wsX8_labour wsX8_asKeep := goodIn_r _ [61, 12, 62, 52, 53, 54, 4, 55, 56, 13, 8, 9, 10, 11, 14, 15, 16, 17, 18, 19, 20, 21, 22, 23, 24, 25, 26, 27, 57, 69, 70, 71, 72, 73, 74, 75, 76, 77, 78, 79, 80, 81, 87] (by decide +kernel) (by decide +kernel)
set_option maxRecDepth 20000 in
theorem gX8_labour_X8_asKeep : GoodIn wsX8_labour (wsV RX8 279 RX8 yX8_asKeep wsX8_asKeep) := goodIn_app (goodIn_of _ (by decide +kernel)) ggX8_labour_X8_asKeep
theorem wX8_labour_279 : CWV mX8_labour 279 mX8_asKeep 1 := ⟨gX8_labour_X8_asKeep, ⟨_, rfl⟩, rfl, by decide +kernel, by decide +kernel, by decide +kernel⟩
set_option maxRecDepth 20000 in
theorem ggX8_labour_X8_asClip : GoodIn wsX8_labour wsX8_asClip := goodIn_r _ [66, 12, 67, 6, 68, 8, 9, 10, 4, 11, 13, 14, 15, 16, 17, 18, 19, 20, 21, 22, 23, 24, 25, 26, 27, 69, 70, 71, 72, 73, 74, 75, 76, 77, 78, 79, 80, 81, 82, 83, 84, 85, 86, 87] (by decide +kernel) (by decide +kernel)
set_option maxRecDepth 20000 in
theorem gX8_labour_X8_asClip : GoodIn wsX8_labour (wsV RX8 282 RX8 yX8_asClip wsX8_asClip) := goodIn_app (goodIn_of _ (by decide +kernel)) ggX8_labour_X8_asClip
theorem wX8_labour_282 : CWV mX8_labour 282 mX8_asClip 1 := ⟨gX8_labour_X8_asClip, ⟨_, rfl⟩, rfl, by decide +kernel, by decide +kernel, by decide +kernel⟩
abbrev mX8_keep : mT := (yX8_keep, RX8, cX8_keep, 3, (some .int), wsX8_keep)
abbrev rX8_keep : Room := { frames := 4, cells := 0, slots := 0, locals := 89 }
theorem dX8_keep_0 : decode cX8_keep 0 = .ok (.iload_n 1, 1) := by decide +kernel
theorem dX8_keep_1 : decode cX8_keep 1 = .ok (.invokestatic 285, 3) := by decide +kernel
theorem dX8_keep_4 : decode cX8_keep 4 = .ok (.ifCond .ne 5, 3) := by decide +kernel
theorem dX8_keep_7 : decode cX8_keep 7 = .ok (.iconst (-1), 1) := by decide +kernel
theorem dX8_keep_8 : decode cX8_keep 8 = .ok (.ireturn, 1) := by decide +kernel
theorem dX8_keep_9 : decode cX8_keep 9 = .ok (.aload_n 0, 1) := by decide +kernel
theorem dX8_keep_10 : decode cX8_keep 10 = .ok (.getfield 57, 3) := by decide +kernel
theorem dX8_keep_13 : decode cX8_keep 13 = .ok (.iload_n 1, 1) := by decide +kernel
theorem dX8_keep_14 : decode cX8_keep 14 = .ok (.aaload, 1) := by decide +kernel
theorem dX8_keep_15 : decode cX8_keep 15 = .ok (.astore_n 2, 1) := by decide +kernel
theorem dX8_keep_16 : decode cX8_keep 16 = .ok (.aload_n 2, 1) := by decide +kernel
theorem dX8_keep_17 : decode cX8_keep 17 = .ok (.getfield 288, 3) := by decide +kernel
theorem dX8_keep_20 : decode cX8_keep 20 = .ok (.aload_n 0, 1) := by decide +kernel
theorem dX8_keep_21 : decode cX8_keep 21 = .ok (.getfield 19, 3) := by decide +kernel
theorem dX8_keep_24 : decode cX8_keep 24 = .ok (.invokevirtual 234, 3) := by decide +kernel
theorem dX8_keep_27 : decode cX8_keep 27 = .ok (.aload_n 2, 1) := by decide +kernel
theorem dX8_keep_28 : decode cX8_keep 28 = .ok (.aload_n 0, 1) := by decide +kernel
theorem dX8_keep_29 : decode cX8_keep 29 = .ok (.getfield 71, 3) := by decide +kernel
theorem dX8_keep_32 : decode cX8_keep 32 = .ok (.putfield 289, 3) := by decide +kernel
theorem dX8_keep_35 : decode cX8_keep 35 = .ok (.aload_n 2, 1) := by decide +kernel
theorem dX8_keep_36 : decode cX8_keep 36 = .ok (.aload_n 0, 1) := by decide +kernel
theorem dX8_keep_37 : decode cX8_keep 37 = .ok (.getfield 75, 3) := by decide +kernel
theorem dX8_keep_40 : decode cX8_keep 40 = .ok (.putfield 290, 3) := by decide +kernel
theorem dX8_keep_43 : decode cX8_keep 43 = .ok (.aload_n 2, 1) := by decide +kernel
theorem dX8_keep_44 : decode cX8_keep 44 = .ok (.iconst 1, 1) := by decide +kernel
theorem dX8_keep_45 : decode cX8_keep 45 = .ok (.putfield 105, 3) := by decide +kernel
theorem dX8_keep_48 : decode cX8_keep 48 = .ok (.aload_n 0, 1) := by decide +kernel
theorem dX8_keep_49 : decode cX8_keep 49 = .ok (.getfield 19, 3) := by decide +kernel
theorem dX8_keep_52 : decode cX8_keep 52 = .ok (.invokevirtual 225, 3) := by decide +kernel
theorem dX8_keep_55 : decode cX8_keep 55 = .ok (.ireturn, 1) := by decide +kernel
theorem iX8_keep_8 : ∀ w ∈ wsX80, w ∈ wsX8_keep := fun w h => List.mem_cons_of_mem _ (List.mem_append_left _ (List.mem_append_left _ (List.mem_append_right _ h)))
theorem fX8_keep_19 : FL mX8_keep 19 8 1 := ⟨_, _, _, rfl, by decide, iX8_keep_8, by decide +kernel⟩
theorem fX8_keep_57 : FL mX8_keep 57 8 7 := ⟨_, _, _, rfl, by decide, iX8_keep_8, by decide +kernel⟩
theorem fX8_keep_71 : FL mX8_keep 71 8 10 := ⟨_, _, _, rfl, by decide, iX8_keep_8, by decide +kernel⟩
theorem fX8_keep_75 : FL mX8_keep 75 8 11 := ⟨_, _, _, rfl, by decide, iX8_keep_8, by decide +kernel⟩
theorem iX8_keep_1 : ∀ w ∈ wsX10, w ∈ wsX8_keep := fun w h => List.mem_cons_of_mem _ (List.mem_append_left _ (List.mem_append_right _ h))
theorem pX8_keep_105 : FP mX8_keep 105 1 3 .boolean false := ⟨_, _, _, tyX1, rfl, by decide, iX8_keep_1, by decide +kernel, tyX1_ok, nmX1, rfl, rfl, fun z => absurd z (by decide)⟩
theorem fX8_keep_288 : FL mX8_keep 288 1 0 := ⟨_, _, _, rfl, by decide, iX8_keep_1, by decide +kernel⟩
theorem pX8_keep_289 : FP mX8_keep 289 1 1 .int false := ⟨_, _, _, tyX1, rfl, by decide, iX8_keep_1, by decide +kernel, tyX1_ok, nmX1, rfl, rfl, fun z => absurd z (by decide)⟩
theorem pX8_keep_290 : FP mX8_keep 290 1 2 .int false := ⟨_, _, _, tyX1, rfl, by decide, iX8_keep_1, by decide +kernel, tyX1_ok, nmX1, rfl, rfl, fun z => absurd z (by decide)⟩
set_option maxRecDepth 20000 in
theorem ggX8_keep_X4_allCoins : GoodIn wsX8_keep wsX4_allCoins := goodIn_r _ [26, 27, 28, 29, 16, 30, 31, 32, 33, 34, 35, 36, 37, 38, 18, 56] (by decide +kernel) (by decide +kernel)
set_option maxRecDepth 20000 in
theorem gX8_keep_X4_allCoins : GoodIn wsX8_keep (wsV RX8 225 RX4 yX4_allCoins wsX4_allCoins) := goodIn_app (goodIn_of _ (by decide +kernel)) ggX8_keep_X4_allCoins
theorem wX8_keep_225 : CWV mX8_keep 225 mX4_allCoins 0 := ⟨gX8_keep_X4_allCoins, ⟨_, rfl⟩, rfl, by decide +kernel, by decide +kernel, by decide +kernel⟩
set_option maxRecDepth 20000 in
theorem ggX8_keep_X4_copyFrom : GoodIn wsX8_keep wsX4_copyFrom := goodIn_r _ [17, 18, 19, 20, 21, 22, 56] (by decide +kernel) (by decide +kernel)
set_option maxRecDepth 20000 in
theorem gX8_keep_X4_copyFrom : GoodIn wsX8_keep (wsV RX8 234 RX4 yX4_copyFrom wsX4_copyFrom) := goodIn_app (goodIn_of _ (by decide +kernel)) ggX8_keep_X4_copyFrom
theorem wX8_keep_234 : CWV mX8_keep 234 mX4_copyFrom 1 := ⟨gX8_keep_X4_copyFrom, ⟨_, rfl⟩, rfl, by decide +kernel, by decide +kernel, by decide +kernel⟩
set_option maxRecDepth 20000 in
theorem ggX8_keep_X8_isImage : GoodIn wsX8_keep wsX8_isImage := goodIn_r _ [12] (by decide +kernel) (by decide +kernel)
set_option maxRecDepth 20000 in
theorem gX8_keep_X8_isImage : GoodIn wsX8_keep (va_wsS RX8 285 yX8_isImage wsX8_isImage) := goodIn_app (goodIn_of _ (by decide +kernel)) ggX8_keep_X8_isImage
theorem wX8_keep_285 : CWS mX8_keep 285 mX8_isImage 1 := ⟨gX8_keep_X8_isImage, ⟨_, rfl⟩, by decide +kernel, by decide +kernel, by decide +kernel⟩
abbrev mX8_back : mT := (yX8_back, RX8, cX8_back, 3, (some .int), wsX8_back)
abbrev rX8_back : Room := { frames := 4, cells := 0, slots := 0, locals := 89 }
theorem dX8_back_0 : decode cX8_back 0 = .ok (.iload_n 1, 1) := by decide +kernel
theorem dX8_back_1 : decode cX8_back 1 = .ok (.invokestatic 285, 3) := by decide +kernel
theorem dX8_back_4 : decode cX8_back 4 = .ok (.ifCond .ne 5, 3) := by decide +kernel
theorem dX8_back_7 : decode cX8_back 7 = .ok (.iconst (-1), 1) := by decide +kernel
theorem dX8_back_8 : decode cX8_back 8 = .ok (.ireturn, 1) := by decide +kernel
theorem dX8_back_9 : decode cX8_back 9 = .ok (.aload_n 0, 1) := by decide +kernel
theorem dX8_back_10 : decode cX8_back 10 = .ok (.getfield 57, 3) := by decide +kernel
theorem dX8_back_13 : decode cX8_back 13 = .ok (.iload_n 1, 1) := by decide +kernel
theorem dX8_back_14 : decode cX8_back 14 = .ok (.aaload, 1) := by decide +kernel
theorem dX8_back_15 : decode cX8_back 15 = .ok (.astore_n 2, 1) := by decide +kernel
theorem dX8_back_16 : decode cX8_back 16 = .ok (.aload_n 2, 1) := by decide +kernel
theorem dX8_back_17 : decode cX8_back 17 = .ok (.getfield 105, 3) := by decide +kernel
theorem dX8_back_20 : decode cX8_back 20 = .ok (.ifCond .ne 6, 3) := by decide +kernel
theorem dX8_back_23 : decode cX8_back 23 = .ok (.bipush (-2), 2) := by decide +kernel
theorem dX8_back_25 : decode cX8_back 25 = .ok (.ireturn, 1) := by decide +kernel
theorem dX8_back_26 : decode cX8_back 26 = .ok (.aload_n 0, 1) := by decide +kernel
theorem dX8_back_27 : decode cX8_back 27 = .ok (.getfield 19, 3) := by decide +kernel
theorem dX8_back_30 : decode cX8_back 30 = .ok (.aload_n 2, 1) := by decide +kernel
theorem dX8_back_31 : decode cX8_back 31 = .ok (.getfield 288, 3) := by decide +kernel
theorem dX8_back_34 : decode cX8_back 34 = .ok (.invokevirtual 234, 3) := by decide +kernel
theorem dX8_back_37 : decode cX8_back 37 = .ok (.aload_n 0, 1) := by decide +kernel
theorem dX8_back_38 : decode cX8_back 38 = .ok (.aload_n 2, 1) := by decide +kernel
theorem dX8_back_39 : decode cX8_back 39 = .ok (.getfield 289, 3) := by decide +kernel
theorem dX8_back_42 : decode cX8_back 42 = .ok (.putfield 71, 3) := by decide +kernel
theorem dX8_back_45 : decode cX8_back 45 = .ok (.aload_n 0, 1) := by decide +kernel
theorem dX8_back_46 : decode cX8_back 46 = .ok (.aload_n 2, 1) := by decide +kernel
theorem dX8_back_47 : decode cX8_back 47 = .ok (.getfield 290, 3) := by decide +kernel
theorem dX8_back_50 : decode cX8_back 50 = .ok (.putfield 75, 3) := by decide +kernel
theorem dX8_back_53 : decode cX8_back 53 = .ok (.aload_n 0, 1) := by decide +kernel
theorem dX8_back_54 : decode cX8_back 54 = .ok (.getfield 19, 3) := by decide +kernel
theorem dX8_back_57 : decode cX8_back 57 = .ok (.invokevirtual 225, 3) := by decide +kernel
theorem dX8_back_60 : decode cX8_back 60 = .ok (.ireturn, 1) := by decide +kernel
theorem iX8_back_8 : ∀ w ∈ wsX80, w ∈ wsX8_back := fun w h => List.mem_cons_of_mem _ (List.mem_append_left _ (List.mem_append_left _ (List.mem_append_right _ h)))
theorem fX8_back_19 : FL mX8_back 19 8 1 := ⟨_, _, _, rfl, by decide, iX8_back_8, by decide +kernel⟩
theorem fX8_back_57 : FL mX8_back 57 8 7 := ⟨_, _, _, rfl, by decide, iX8_back_8, by decide +kernel⟩
theorem pX8_back_71 : FP mX8_back 71 8 10 .int false := ⟨_, _, _, tyX8, rfl, by decide, iX8_back_8, by decide +kernel, tyX8_ok, nmX8, rfl, rfl, fun z => absurd z (by decide)⟩
theorem pX8_back_75 : FP mX8_back 75 8 11 .int false := ⟨_, _, _, tyX8, rfl, by decide, iX8_back_8, by decide +kernel, tyX8_ok, nmX8, rfl, rfl, fun z => absurd z (by decide)⟩
theorem iX8_back_1 : ∀ w ∈ wsX10, w ∈ wsX8_back := fun w h => List.mem_cons_of_mem _ (List.mem_append_left _ (List.mem_append_right _ h))
theorem fX8_back_105 : FL mX8_back 105 1 3 := ⟨_, _, _, rfl, by decide, iX8_back_1, by decide +kernel⟩
theorem fX8_back_288 : FL mX8_back 288 1 0 := ⟨_, _, _, rfl, by decide, iX8_back_1, by decide +kernel⟩
theorem fX8_back_289 : FL mX8_back 289 1 1 := ⟨_, _, _, rfl, by decide, iX8_back_1, by decide +kernel⟩
theorem fX8_back_290 : FL mX8_back 290 1 2 := ⟨_, _, _, rfl, by decide, iX8_back_1, by decide +kernel⟩
set_option maxRecDepth 20000 in
theorem ggX8_back_X4_allCoins : GoodIn wsX8_back wsX4_allCoins := goodIn_r _ [26, 27, 28, 29, 16, 30, 31, 32, 33, 34, 35, 36, 37, 38, 18, 56] (by decide +kernel) (by decide +kernel)
set_option maxRecDepth 20000 in
theorem gX8_back_X4_allCoins : GoodIn wsX8_back (wsV RX8 225 RX4 yX4_allCoins wsX4_allCoins) := goodIn_app (goodIn_of _ (by decide +kernel)) ggX8_back_X4_allCoins
theorem wX8_back_225 : CWV mX8_back 225 mX4_allCoins 0 := ⟨gX8_back_X4_allCoins, ⟨_, rfl⟩, rfl, by decide +kernel, by decide +kernel, by decide +kernel⟩
set_option maxRecDepth 20000 in
theorem ggX8_back_X4_copyFrom : GoodIn wsX8_back wsX4_copyFrom := goodIn_r _ [17, 18, 19, 20, 21, 22, 56] (by decide +kernel) (by decide +kernel)
set_option maxRecDepth 20000 in
theorem gX8_back_X4_copyFrom : GoodIn wsX8_back (wsV RX8 234 RX4 yX4_copyFrom wsX4_copyFrom) := goodIn_app (goodIn_of _ (by decide +kernel)) ggX8_back_X4_copyFrom
theorem wX8_back_234 : CWV mX8_back 234 mX4_copyFrom 1 := ⟨gX8_back_X4_copyFrom, ⟨_, rfl⟩, rfl, by decide +kernel, by decide +kernel, by decide +kernel⟩
set_option maxRecDepth 20000 in
theorem ggX8_back_X8_isImage : GoodIn wsX8_back wsX8_isImage := goodIn_r _ [12] (by decide +kernel) (by decide +kernel)
set_option maxRecDepth 20000 in
theorem gX8_back_X8_isImage : GoodIn wsX8_back (va_wsS RX8 285 yX8_isImage wsX8_isImage) := goodIn_app (goodIn_of _ (by decide +kernel)) ggX8_back_X8_isImage
theorem wX8_back_285 : CWS mX8_back 285 mX8_isImage 1 := ⟨gX8_back_X8_isImage, ⟨_, rfl⟩, by decide +kernel, by decide +kernel, by decide +kernel⟩
abbrev mX8_count : mT := (yX8_count, RX8, cX8_count, 2, (some .int), wsX8_count)
abbrev rX8_count : Room := { frames := 4, cells := 0, slots := 0, locals := 89 }
theorem dX8_count_0 : decode cX8_count 0 = .ok (.iload_n 1, 1) := by decide +kernel
theorem dX8_count_1 : decode cX8_count 1 = .ok (.tableswitch 84 0 5 #[39, 47, 55, 60, 68, 76], 39) := by decide +kernel
theorem dX8_count_40 : decode cX8_count 40 = .ok (.aload_n 0, 1) := by decide +kernel
theorem dX8_count_41 : decode cX8_count 41 = .ok (.getfield 64, 3) := by decide +kernel
theorem dX8_count_44 : decode cX8_count 44 = .ok (.getfield 109, 3) := by decide +kernel
theorem dX8_count_47 : decode cX8_count 47 = .ok (.ireturn, 1) := by decide +kernel
theorem dX8_count_48 : decode cX8_count 48 = .ok (.aload_n 0, 1) := by decide +kernel
theorem dX8_count_49 : decode cX8_count 49 = .ok (.getfield 19, 3) := by decide +kernel
theorem dX8_count_52 : decode cX8_count 52 = .ok (.invokevirtual 225, 3) := by decide +kernel
theorem dX8_count_55 : decode cX8_count 55 = .ok (.ireturn, 1) := by decide +kernel
theorem dX8_count_56 : decode cX8_count 56 = .ok (.aload_n 0, 1) := by decide +kernel
theorem dX8_count_57 : decode cX8_count 57 = .ok (.getfield 75, 3) := by decide +kernel
theorem dX8_count_60 : decode cX8_count 60 = .ok (.ireturn, 1) := by decide +kernel
theorem dX8_count_61 : decode cX8_count 61 = .ok (.aload_n 0, 1) := by decide +kernel
theorem dX8_count_62 : decode cX8_count 62 = .ok (.getfield 10, 3) := by decide +kernel
theorem dX8_count_65 : decode cX8_count 65 = .ok (.getfield 92, 3) := by decide +kernel
theorem dX8_count_68 : decode cX8_count 68 = .ok (.ireturn, 1) := by decide +kernel
theorem dX8_count_69 : decode cX8_count 69 = .ok (.aload_n 0, 1) := by decide +kernel
theorem dX8_count_70 : decode cX8_count 70 = .ok (.getfield 36, 3) := by decide +kernel
theorem dX8_count_73 : decode cX8_count 73 = .ok (.getfield 291, 3) := by decide +kernel
theorem dX8_count_76 : decode cX8_count 76 = .ok (.ireturn, 1) := by decide +kernel
theorem dX8_count_77 : decode cX8_count 77 = .ok (.aload_n 0, 1) := by decide +kernel
theorem dX8_count_78 : decode cX8_count 78 = .ok (.getfield 19, 3) := by decide +kernel
theorem dX8_count_81 : decode cX8_count 81 = .ok (.invokevirtual 228, 3) := by decide +kernel
theorem dX8_count_84 : decode cX8_count 84 = .ok (.ireturn, 1) := by decide +kernel
theorem dX8_count_85 : decode cX8_count 85 = .ok (.iconst (-1), 1) := by decide +kernel
theorem dX8_count_86 : decode cX8_count 86 = .ok (.ireturn, 1) := by decide +kernel
theorem iX8_count_8 : ∀ w ∈ wsX80, w ∈ wsX8_count := fun w h => List.mem_cons_of_mem _ (List.mem_append_left _ (List.mem_append_left _ (List.mem_append_left _ (List.mem_append_left _ (List.mem_append_right _ h)))))
theorem fX8_count_10 : FL mX8_count 10 8 0 := ⟨_, _, _, rfl, by decide, iX8_count_8, by decide +kernel⟩
theorem fX8_count_19 : FL mX8_count 19 8 1 := ⟨_, _, _, rfl, by decide, iX8_count_8, by decide +kernel⟩
theorem fX8_count_36 : FL mX8_count 36 8 4 := ⟨_, _, _, rfl, by decide, iX8_count_8, by decide +kernel⟩
theorem fX8_count_64 : FL mX8_count 64 8 8 := ⟨_, _, _, rfl, by decide, iX8_count_8, by decide +kernel⟩
theorem fX8_count_75 : FL mX8_count 75 8 11 := ⟨_, _, _, rfl, by decide, iX8_count_8, by decide +kernel⟩
theorem iX8_count_5 : ∀ w ∈ wsX50, w ∈ wsX8_count := fun w h => List.mem_cons_of_mem _ (List.mem_append_left _ (List.mem_append_left _ (List.mem_append_right _ h)))
theorem fX8_count_92 : FL mX8_count 92 5 1 := ⟨_, _, _, rfl, by decide, iX8_count_5, by decide +kernel⟩
theorem iX8_count_6 : ∀ w ∈ wsX60, w ∈ wsX8_count := fun w h => List.mem_cons_of_mem _ (List.mem_append_left _ (List.mem_append_left _ (List.mem_append_left _ (List.mem_append_right _ h))))
theorem fX8_count_109 : FL mX8_count 109 6 4 := ⟨_, _, _, rfl, by decide, iX8_count_6, by decide +kernel⟩
theorem iX8_count_3 : ∀ w ∈ wsX30, w ∈ wsX8_count := fun w h => List.mem_cons_of_mem _ (List.mem_append_left _ (List.mem_append_right _ h))
theorem fX8_count_291 : FL mX8_count 291 3 4 := ⟨_, _, _, rfl, by decide, iX8_count_3, by decide +kernel⟩
set_option maxRecDepth 20000 in
theorem ggX8_count_X4_allCoins : GoodIn wsX8_count wsX4_allCoins := goodIn_r _ [13, 14, 15, 16, 12, 17, 18, 19, 20, 21, 22, 23, 24, 25, 26, 64] (by decide +kernel) (by decide +kernel)
set_option maxRecDepth 20000 in
theorem gX8_count_X4_allCoins : GoodIn wsX8_count (wsV RX8 225 RX4 yX4_allCoins wsX4_allCoins) := goodIn_app (goodIn_of _ (by decide +kernel)) ggX8_count_X4_allCoins
theorem wX8_count_225 : CWV mX8_count 225 mX4_allCoins 0 := ⟨gX8_count_X4_allCoins, ⟨_, rfl⟩, rfl, by decide +kernel, by decide +kernel, by decide +kernel⟩
set_option maxRecDepth 20000 in
theorem ggX8_count_X4_allGrains : GoodIn wsX8_count wsX4_allGrains := goodIn_r _ [30, 31, 32, 33, 12, 34, 22, 23, 24, 25, 26, 64] (by decide +kernel) (by decide +kernel)
set_option maxRecDepth 20000 in
theorem gX8_count_X4_allGrains : GoodIn wsX8_count (wsV RX8 228 RX4 yX4_allGrains wsX4_allGrains) := goodIn_app (goodIn_of _ (by decide +kernel)) ggX8_count_X4_allGrains
theorem wX8_count_228 : CWV mX8_count 228 mX4_allGrains 0 := ⟨gX8_count_X4_allGrains, ⟨_, rfl⟩, rfl, by decide +kernel, by decide +kernel, by decide +kernel⟩
abbrev mX8_trace : mT := (yX8_trace, RX8, cX8_trace, 1, (some .long), wsX8_trace)
abbrev rX8_trace : Room := { frames := 0, cells := 0, slots := 0, locals := 0 }
theorem dX8_trace_0 : decode cX8_trace 0 = .ok (.aload_n 0, 1) := by decide +kernel
theorem dX8_trace_1 : decode cX8_trace 1 = .ok (.getfield 78, 3) := by decide +kernel
theorem dX8_trace_4 : decode cX8_trace 4 = .ok (.lreturn, 1) := by decide +kernel
theorem iX8_trace_8 : ∀ w ∈ wsX80, w ∈ wsX8_trace := fun w h => List.mem_cons_of_mem _ (List.mem_append_right _ h)
theorem fX8_trace_78 : FL mX8_trace 78 8 12 := ⟨_, _, _, rfl, by decide, iX8_trace_8, by decide +kernel⟩
/-- the purses when i years have gone by -/
def yrS (f : Nat → Int32) (yy wr : Nat) : Nat → Nat → Int32
  | 0 => f
  | i + 1 => if (yy + i + 1) % wr = 0 then wearA (yrS f yy wr i) else yrS f yy wr i
/-- shabby: from y years on, d of them -/
def shS (m : Int32) (yy wr : Nat) : Nat → Nat → (Nat → Int32) → Int32
  | 0, _, _ => -9
  | d + 1, y, g => if (yy + y) % wr = 0 then (if pGr (wearA g) * 10 ≤ m * pAll (wearA g) then nI y else shS m yy wr d (y + 1) (wearA g)) else shS m yy wr d (y + 1) g
/-- the changer: best and highest of the first k -/
def chX (f u : Nat → Int32) (p : Nat) (c : Int32) : Nat → Int32 × Int32
  | 0 => (0, -1)
  | k + 1 => if hmF f u p (nI k) c < (chX f u p c k).2 then chX f u p c k else (nI k, hmF f u p (nI k) c)
/-- labour: what each kind answers, what it puts to the trace -/
def lbA (f u x o : Nat → Int32) (lim p : Nat) : Nat → Int32
  | 0 => pCo f p
  | 1 => pCo f p + 1
  | 2 => pCo f p + u 1 * sr (fun w => f (p * 10 + w)) (lim + 1) (10 - (lim + 1))
  | 3 => x p * (pCo f p + u 1 * sr (fun w => f (p * 10 + w)) (lim + 1) (10 - (lim + 1))) / 10
  | 4 => pCo f p - f (p * 10)
  | 5 => 2 * (pCo f p - f (p * 10))
  | _ => pCo f p + o p
def lbT (tc : Int64) : Nat → Int64
  | 0 => tc + 1
  | 1 => tc + 10 + 1
  | 2 => tc + 100 + 1
  | 3 => tc + 1000 + 100 + 1
  | 4 => tc + 10000 + 1
  | 5 => tc + 100000 + 10000 + 1
  | _ => tc + 1000000 + 1
section
variable {Γ : gT} {l : Launch} {as : List Nat} {h : aH} {X T P S U M D L I tw dr : Nat} {lot yr : Int32} {tc : Int64} {aw ax ay ao n k pr ur lim : Nat} {f u w x y o lw : Nat → Int32} {yy wr : Nat} {x0 x1 x2 x3 x4 : Int32}
theorem c_year_bad {m : Int32} (hb : m < 1 ∨ 50 < m) : Det Γ l mX8_year rX8_year [.ref X, .int m] as h (some (.int (-1))) h := by
  refine Con.of (by decide +kernel) rfl rfl (Nat.le_of_ble_eq_true rfl) ?_
  refine q_iload_n dX8_year_0 rfl rfl ?_
  refine q_iconst (v := 1) dX8_year_1 rfl ?_
  refine q_icmp_lt 11 dX8_year_2 (by decide) (fun cA => ?_) (fun cA => ?_)
  · refine q_iconst (v := (-1)) dX8_year_11 rfl ?_
    exact q_iret dX8_year_12 rfl (Nat.zero_le _) (Nat.zero_le _) (⟨rfl, rfl, rfl⟩)
  · refine q_iload_n dX8_year_5 rfl rfl ?_
    refine q_bipush (v := 50) dX8_year_6 rfl ?_
    refine q_icmp_le 13 dX8_year_8 (by decide) (fun cB => ?_) (fun cB => ?_)
    · exact absurd (hb.resolve_left cA) (Int32.not_lt.mpr cB)
    · refine q_iconst (v := (-1)) dX8_year_11 rfl ?_
      exact q_iret dX8_year_12 rfl (Nat.zero_le _) (Nat.zero_le _) (⟨rfl, rfl, rfl⟩)
theorem c_year_late {m : Nat} (hm0 : 1 ≤ m) (hm : m ≤ 50) (hy : yy ≤ 1000) (hl : 1000 < yy + m) (hX : hat as h X (xo T P S U M D L I tw dr lot (nI yy) tc)) : Det Γ l mX8_year rX8_year [.ref X, .int (nI m)] as h (some (.int (-2))) h := by
  refine Con.of (by decide +kernel) rfl rfl (Nat.le_of_ble_eq_true rfl) ?_
  refine q_iload_n dX8_year_0 rfl rfl ?_
  refine q_iconst (v := 1) dX8_year_1 rfl ?_
  refine q_icmp_lt 11 dX8_year_2 (by decide) (fun z => absurd z (nI_nlt (b := 1) (by omega) (by omega))) (fun _ => ?_)
  refine q_iload_n dX8_year_5 rfl rfl ?_
  refine q_bipush (v := 50) dX8_year_6 rfl ?_
  refine q_icmp_le 13 dX8_year_8 (by decide) (fun _ => ?_) (fun z => absurd (nI_le (b := 50) (by omega) (by omega)) z)
  refine q_aload_n dX8_year_13 rfl rfl ?_
  refine q_get dX8_year_14 fX8_year_75 (hX) rfl ?_
  refine q_iload_n dX8_year_17 rfl rfl ?_
  refine q_iadd dX8_year_18 ?_
  refine q_sipush (v := 1000) dX8_year_19 rfl ?_
  rw [nI_add]
  refine q_icmp_le 28 dX8_year_22 (by decide) (fun z => absurd z (nI_ge (a := 1000) hl (by omega))) (fun _ => ?_)
  refine q_bipush (v := (-2)) dX8_year_25 rfl ?_
  exact q_iret dX8_year_27 rfl (Nat.zero_le _) (Nat.zero_le _) (⟨rfl, rfl, rfl⟩)
theorem c_year {m : Nat} (hm0 : 1 ≤ m) (hm : m ≤ 50) (hy : yy + m ≤ 1000) (hwr : u 5 = nI wr) (hw0 : 0 < wr) (hw1 : wr ≤ 99) (hX : hat as h X (xo T P S U M D L I tw dr lot (nI yy) tc)) (hP : hat as h P (ob 4 [.ref pr])) (hpr : hat as h pr (aI Γ 80 f)) (hU : hat as h U (ob 7 [.ref ur])) (hur : hat as h ur (aI Γ 6 u)) : Det Γ l mX8_year rX8_year [.ref X, .int (nI m)] as h (some (.int (nI (yy + m)))) (hset (hset h X (xo T P S U M D L I tw dr lot (nI (yy + m)) tc)) pr (aI Γ 80 (yrS f yy wr m))) := by
  have e1 := hat_oa hX hpr
  have g1 : ∀ e e' : va_E, hat as (hset (hset h X e) pr e') P (ob 4 [.ref pr]) := fun e e' => hat_ne (hat_ne hP (hat_oo hP hX (by decide))) (hat_oa hP hpr)
  have g2 : ∀ e e' : va_E, hat as (hset (hset h X e) pr e') U (ob 7 [.ref ur]) := fun e e' => hat_ne (hat_ne hU (hat_oo hU hX (by decide))) (hat_oa hU hpr)
  have g3 : ∀ e e' : va_E, hat as (hset (hset h X e) pr e') ur (aI Γ 6 u) := fun e e' => hat_ne (hat_ne hur (hat_ao hur hX)) (hat_nl hur hpr (by decide))
  have g4 : ∀ e e' : va_E, hat as (hset (hset h X e) pr e') X e := fun e e' => hat_ne (hat_set hX) e1
  have g5 : ∀ e e' : va_E, hat as (hset (hset h X e) pr e') pr e' := fun e e' => hat_set (hat_ne hpr e1.symm)
  have sw : ∀ a b c : va_E, hset (hset (hset h X a) pr b) X c = hset (hset h X c) pr b := fun a b c => by rw [hset_comm e1, hset_hset]
  have key : ∀ (d c : Nat) (v2 : Int32) (ls : List (Nat × Value)) (h' : aH), c + d = m → v2 = nI c → h' = hset (hset h X (xo T P S U M D L I tw dr lot (nI (yy + c)) tc)) pr (aI Γ 80 (yrS f yy wr c)) → lin ls [(0, .ref X), (1, .int (nI m)), (2, .int v2)] → V Γ l mX8_year rX8_year (Zm Γ rX8_year (qD (some (.int (nI (yy + m)))) as (hset (hset h X (xo T P S U M D L I tw dr lot (nI (yy + m)) tc)) pr (aI Γ 80 (yrS f yy wr m))))) 0 0 30 ls [] as h' := by
    intro d
    induction d with
    | zero =>
      intro c v2 ls h' hc e2 hh hl
      subst e2 hh
      refine V.at ?_ hl
      refine q_iload_n dX8_year_30 rfl rfl ?_
      refine q_iload_n dX8_year_31 rfl rfl ?_
      refine q_icmp_ge 76 dX8_year_32 (by decide) (fun _ => ?_) (fun z => absurd (nI_le (by omega) (by omega)) z)
      refine q_aload_n dX8_year_76 rfl rfl ?_
      refine q_get dX8_year_77 fX8_year_75 (g4 _ _) rfl ?_
      exact q_iret dX8_year_80 rfl (Nat.zero_le _) (Nat.zero_le _) (⟨by rw [show c = m by omega], rfl, by rw [show c = m by omega]⟩)
    | succ d ih =>
      intro c v2 ls h' hc e2 hh hl
      subst e2 hh
      refine V.at ?_ hl
      refine q_iload_n dX8_year_30 rfl rfl ?_
      refine q_iload_n dX8_year_31 rfl rfl ?_
      refine q_icmp_ge 76 dX8_year_32 (by decide) (fun z => absurd z (nI_ge (by omega) (by omega))) (fun _ => ?_)
      refine q_aload_n dX8_year_35 rfl rfl ?_
      refine q_dup dX8_year_36 rfl ?_
      refine q_get dX8_year_37 fX8_year_75 (g4 _ _) rfl ?_
      refine q_iconst (v := 1) dX8_year_40 rfl ?_
      refine q_iadd dX8_year_41 ?_
      rw [nI_s]
      refine q_put dX8_year_42 pX8_year_75 (g4 _ _) rfl rfl (Nat.le_of_ble_eq_true rfl) ?_
      refine V.hp ?_ (sw _ _ _)
      refine q_aload_n dX8_year_45 rfl rfl ?_
      refine q_get dX8_year_46 fX8_year_29 (g4 _ _) rfl ?_
      refine q_iconst (v := 5) dX8_year_49 rfl ?_
      refine q_callVd dX8_year_50 wX8_year_172 (c_of (j := 5) (g2 _ _) (g3 _ _) (by omega)) (g2 _ _) ⟨_, _, rfl⟩ rfl rfl (Nat.le_of_ble_eq_true rfl) ⟨⟨Nat.le_of_ble_eq_true rfl, Nat.le_of_ble_eq_true rfl⟩, Nat.le_of_ble_eq_true rfl, Nat.le_of_ble_eq_true rfl⟩ ?_
      refine q_aload_n dX8_year_53 rfl rfl ?_
      rw [hwr]
      refine q_get dX8_year_54 fX8_year_75 (g4 _ _) rfl ?_
      refine q_callSd dX8_year_57 wX8_year_218 (c_divides (m := yy + c + 1) hw0 (by omega) (by omega)) rfl rfl (Nat.le_of_ble_eq_true rfl) ⟨⟨Nat.le_of_ble_eq_true rfl, Nat.le_of_ble_eq_true rfl⟩, Nat.le_of_ble_eq_true rfl, Nat.le_of_ble_eq_true rfl⟩ ?_
      refine q_if_eq 70 dX8_year_60 (by decide) (fun cA => ?_) (fun cA => ?_)
      · have hd : ¬ (yy + c + 1) % wr = 0 := of_decide_eq_false (bI_0.mp cA)
        refine q_iinc1 dX8_year_70 rfl (by decide) ?_
        refine q_goto 30 dX8_year_73 (by decide) ?_
        exact ih (c + 1) _ _ _ (by omega) (nI_s c) (by simp only [yrS]; rw [if_neg hd]; rfl) ⟨rfl, rfl, rfl, trivial⟩
      · have hd : (yy + c + 1) % wr = 0 := of_decide_eq_true (bI_n.mp cA)
        refine q_aload_n dX8_year_63 rfl rfl ?_
        refine q_get dX8_year_64 fX8_year_19 (g4 _ _) rfl ?_
        refine q_callVd dX8_year_67 wX8_year_222 (c_loseGrain (g1 _ _) (g5 _ _)) (g1 _ _) ⟨_, _, rfl⟩ rfl rfl (Nat.le_of_ble_eq_true rfl) ⟨⟨Nat.le_of_ble_eq_true rfl, Nat.le_of_ble_eq_true rfl⟩, Nat.le_of_ble_eq_true rfl, Nat.le_of_ble_eq_true rfl⟩ ?_
        refine q_iinc1 dX8_year_70 rfl (by decide) ?_
        refine q_goto 30 dX8_year_73 (by decide) ?_
        exact ih (c + 1) _ _ _ (by omega) (nI_s c) (by simp only [yrS]; rw [if_pos hd, hset_hset]; rfl) ⟨rfl, rfl, rfl, trivial⟩
  refine Con.of (by decide +kernel) rfl rfl (Nat.le_of_ble_eq_true rfl) ?_
  refine q_iload_n dX8_year_0 rfl rfl ?_
  refine q_iconst (v := 1) dX8_year_1 rfl ?_
  refine q_icmp_lt 11 dX8_year_2 (by decide) (fun z => absurd z (nI_nlt (b := 1) (by omega) (by omega))) (fun _ => ?_)
  refine q_iload_n dX8_year_5 rfl rfl ?_
  refine q_bipush (v := 50) dX8_year_6 rfl ?_
  refine q_icmp_le 13 dX8_year_8 (by decide) (fun _ => ?_) (fun z => absurd (nI_le (b := 50) (by omega) (by omega)) z)
  refine q_aload_n dX8_year_13 rfl rfl ?_
  refine q_get dX8_year_14 fX8_year_75 (hX) rfl ?_
  refine q_iload_n dX8_year_17 rfl rfl ?_
  refine q_iadd dX8_year_18 ?_
  refine q_sipush (v := 1000) dX8_year_19 rfl ?_
  rw [nI_add]
  refine q_icmp_le 28 dX8_year_22 (by decide) (fun _ => ?_) (fun z => absurd (nI_le (b := 1000) hy (by omega)) z)
  refine q_iconst (v := 0) dX8_year_28 rfl ?_
  refine q_istore_n dX8_year_29 rfl (by decide) ?_
  exact key m 0 _ _ _ (by omega) rfl (by rw [show yrS f yy wr 0 = f from rfl, Nat.add_zero, hset_same hX.2, hset_same hpr.2]) ⟨rfl, rfl, rfl, trivial⟩
theorem c_mean_no {q : Int32} (hb : isUL q = false ∨ pAll f = 0) (hX : hat as h X (xo T P S U M D L I tw dr lot yr tc)) (hP : hat as h P (ob 4 [.ref pr])) (hpr : hat as h pr (aI Γ 80 f)) : Det Γ l mX8_mean rX8_mean [.ref X, .int q] as h (some (.long (-1000000000000000000))) h := by
  refine Con.of (by decide +kernel) rfl rfl (Nat.le_of_ble_eq_true rfl) ?_
  refine q_aload_n dX8_mean_0 rfl rfl ?_
  refine q_get dX8_mean_1 fX8_mean_19 (hX) rfl ?_
  refine q_callVd dX8_mean_4 wX8_mean_225 (c_allCoins hP hpr) (hP) ⟨_, _, rfl⟩ rfl rfl (Nat.le_of_ble_eq_true rfl) ⟨⟨Nat.le_of_ble_eq_true rfl, Nat.le_of_ble_eq_true rfl⟩, Nat.le_of_ble_eq_true rfl, Nat.le_of_ble_eq_true rfl⟩ ?_
  refine q_istore_n dX8_mean_7 rfl (by decide) ?_
  refine q_iload_n dX8_mean_8 rfl rfl ?_
  refine q_callSd dX8_mean_9 wX8_mean_164 (c_isUL) rfl rfl (Nat.le_of_ble_eq_true rfl) ⟨⟨Nat.le_of_ble_eq_true rfl, Nat.le_of_ble_eq_true rfl⟩, Nat.le_of_ble_eq_true rfl, Nat.le_of_ble_eq_true rfl⟩ ?_
  refine q_if_eq 19 dX8_mean_12 (by decide) (fun cA => ?_) (fun cA => ?_)
  · refine q_ldc2 (v := (-1000000000000000000)) dX8_mean_19 (by decide +kernel) ?_
    exact q_lret dX8_mean_22 rfl (Nat.zero_le _) (Nat.zero_le _) (⟨rfl, rfl, rfl⟩)
  · refine q_iload_n dX8_mean_15 rfl rfl ?_
    refine q_if_ne 23 dX8_mean_16 (by decide) (fun cB => ?_) (fun cB => ?_)
    · exact absurd (hb.resolve_left (fun z => by rw [z] at cA; exact cA rfl)) cB
    · refine q_ldc2 (v := (-1000000000000000000)) dX8_mean_19 (by decide +kernel) ?_
      exact q_lret dX8_mean_22 rfl (Nat.zero_le _) (Nat.zero_le _) (⟨rfl, rfl, rfl⟩)
theorem c_mean {q : Int32} {a b : Nat} (hq : isUL q = true) (ha : pGr f = nI a) (hb : pAll f = nI b) (ha2 : a < 2 ^ 31) (hb0 : 0 < b) (hb2 : b < 2 ^ 31) (hs : stp 200 a b = true) (hX : hat as h X (xo T P S U M D L I tw dr lot yr tc)) (hP : hat as h P (ob 4 [.ref pr])) (hpr : hat as h pr (aI Γ 80 f)) : Det Γ l mX8_mean rX8_mean [.ref X, .int q] as h (some (.long ((if q = 0 then lN a else lN b) / lN (Nat.gcd a b)))) h := by
  refine Con.of (by decide +kernel) rfl rfl (Nat.le_of_ble_eq_true rfl) ?_
  refine q_aload_n dX8_mean_0 rfl rfl ?_
  refine q_get dX8_mean_1 fX8_mean_19 (hX) rfl ?_
  refine q_callVd dX8_mean_4 wX8_mean_225 (c_allCoins hP hpr) (hP) ⟨_, _, rfl⟩ rfl rfl (Nat.le_of_ble_eq_true rfl) ⟨⟨Nat.le_of_ble_eq_true rfl, Nat.le_of_ble_eq_true rfl⟩, Nat.le_of_ble_eq_true rfl, Nat.le_of_ble_eq_true rfl⟩ ?_
  refine q_istore_n dX8_mean_7 rfl (by decide) ?_
  refine q_iload_n dX8_mean_8 rfl rfl ?_
  refine q_callSd dX8_mean_9 wX8_mean_164 (c_isUL) rfl rfl (Nat.le_of_ble_eq_true rfl) ⟨⟨Nat.le_of_ble_eq_true rfl, Nat.le_of_ble_eq_true rfl⟩, Nat.le_of_ble_eq_true rfl, Nat.le_of_ble_eq_true rfl⟩ ?_
  refine q_if_eq 19 dX8_mean_12 (by decide) (fun z => absurd z (isUL_in hq)) (fun _ => ?_)
  refine q_iload_n dX8_mean_15 rfl rfl ?_
  refine q_if_ne 23 dX8_mean_16 (by decide) (fun _ => ?_) (fun z => absurd z (by rw [hb]; exact nI_ne0 hb0 hb2))
  refine q_aload_n dX8_mean_23 rfl rfl ?_
  refine q_get dX8_mean_24 fX8_mean_19 (hX) rfl ?_
  refine q_callVd dX8_mean_27 wX8_mean_228 (c_allGrains hP hpr) (hP) ⟨_, _, rfl⟩ rfl rfl (Nat.le_of_ble_eq_true rfl) ⟨⟨Nat.le_of_ble_eq_true rfl, Nat.le_of_ble_eq_true rfl⟩, Nat.le_of_ble_eq_true rfl, Nat.le_of_ble_eq_true rfl⟩ ?_
  refine q_i2l dX8_mean_30 ?_
  refine q_iload_n dX8_mean_31 rfl rfl ?_
  refine q_i2l dX8_mean_32 ?_
  refine q_iload_n dX8_mean_33 rfl rfl ?_
  rw [ha, hb, nI_l ha2, nI_l hb2]
  refine q_callSd dX8_mean_34 wX8_mean_186 (c_leastTerms (a := a) (b := b) (by by_cases z : 0 < lN a; rw [if_pos z]; rw [if_neg z]; have : a = 0 := Nat.eq_zero_of_not_pos (fun w => z ((pk_lLT (a := 0) (by omega) (by omega)).mpr w)); rw [this]; rfl) (by omega) (by omega) hb0 hs) rfl rfl (Nat.le_of_ble_eq_true rfl) ⟨⟨Nat.le_of_ble_eq_true rfl, Nat.le_of_ble_eq_true rfl⟩, Nat.le_of_ble_eq_true rfl, Nat.le_of_ble_eq_true rfl⟩ ?_
  exact q_lret dX8_mean_37 rfl (Nat.zero_le _) (Nat.zero_le _) (⟨rfl, rfl, rfl⟩)
theorem c_shabby_bad {m : Int32} (hb : m < 0 ∨ 100 < m) : Det Γ l mX8_shabby rX8_shabby [.ref X, .int m] as h (some (.int (-1))) h := by
  refine Con.of (by decide +kernel) rfl rfl (Nat.le_of_ble_eq_true rfl) ?_
  refine q_iload_n dX8_shabby_0 rfl rfl ?_
  refine q_if_lt 10 dX8_shabby_1 (by decide) (fun cA => ?_) (fun cA => ?_)
  · refine q_iconst (v := (-1)) dX8_shabby_10 rfl ?_
    exact q_iret dX8_shabby_11 rfl (Nat.zero_le _) (Nat.zero_le _) (⟨rfl, rfl, rfl⟩)
  · refine q_iload_n dX8_shabby_4 rfl rfl ?_
    refine q_bipush (v := 100) dX8_shabby_5 rfl ?_
    refine q_icmp_le 12 dX8_shabby_7 (by decide) (fun cB => ?_) (fun cB => ?_)
    · exact absurd (hb.resolve_left cA) (Int32.not_lt.mpr cB)
    · refine q_iconst (v := (-1)) dX8_shabby_10 rfl ?_
      exact q_iret dX8_shabby_11 rfl (Nat.zero_le _) (Nat.zero_le _) (⟨rfl, rfl, rfl⟩)
theorem c_shabby_none {m : Int32} (hm0 : ¬ m < 0) (hm : m ≤ 100) (hb : m < 10 ∨ pAll f = 0) (hX : hat as h X (xo T P S U M D L I tw dr lot yr tc)) (hP : hat as h P (ob 4 [.ref pr])) (hpr : hat as h pr (aI Γ 80 f)) : Det Γ l mX8_shabby rX8_shabby [.ref X, .int m] as h (some (.int (-9))) h := by
  refine Con.of (by decide +kernel) rfl rfl (Nat.le_of_ble_eq_true rfl) ?_
  refine q_iload_n dX8_shabby_0 rfl rfl ?_
  refine q_if_lt 10 dX8_shabby_1 (by decide) (fun z => absurd z (hm0)) (fun _ => ?_)
  refine q_iload_n dX8_shabby_4 rfl rfl ?_
  refine q_bipush (v := 100) dX8_shabby_5 rfl ?_
  refine q_icmp_le 12 dX8_shabby_7 (by decide) (fun _ => ?_) (fun z => absurd (hm) z)
  refine q_iload_n dX8_shabby_12 rfl rfl ?_
  refine q_bipush (v := 10) dX8_shabby_13 rfl ?_
  refine q_icmp_lt 28 dX8_shabby_15 (by decide) (fun cA => ?_) (fun cA => ?_)
  · refine q_bipush (v := (-9)) dX8_shabby_28 rfl ?_
    exact q_iret dX8_shabby_30 rfl (Nat.zero_le _) (Nat.zero_le _) (⟨rfl, rfl, rfl⟩)
  · refine q_aload_n dX8_shabby_18 rfl rfl ?_
    refine q_get dX8_shabby_19 fX8_shabby_19 (hX) rfl ?_
    refine q_callVd dX8_shabby_22 wX8_shabby_225 (c_allCoins hP hpr) (hP) ⟨_, _, rfl⟩ rfl rfl (Nat.le_of_ble_eq_true rfl) ⟨⟨Nat.le_of_ble_eq_true rfl, Nat.le_of_ble_eq_true rfl⟩, Nat.le_of_ble_eq_true rfl, Nat.le_of_ble_eq_true rfl⟩ ?_
    refine q_if_ne 31 dX8_shabby_25 (by decide) (fun cB => ?_) (fun cB => ?_)
    · exact absurd (hb.resolve_left cA) cB
    · refine q_bipush (v := (-9)) dX8_shabby_28 rfl ?_
      exact q_iret dX8_shabby_30 rfl (Nat.zero_le _) (Nat.zero_le _) (⟨rfl, rfl, rfl⟩)
theorem c_shabby {m : Int32} {sq : Nat} {g : Nat → Int32} (hm0 : ¬ m < 0) (hm : m ≤ 100) (hm10 : ¬ m < 10) (hall : ¬ pAll f = 0) (hyy : yy ≤ 1000) (hwr : u 5 = nI wr) (hw0 : 0 < wr) (hw1 : wr ≤ 99) (hX : hat as h X (xo T P S U M D L I tw dr lot (nI yy) tc)) (hP : hat as h P (ob 4 [.ref pr])) (hpr : hat as h pr (aI Γ 80 f)) (hU : hat as h U (ob 7 [.ref ur])) (hur : hat as h ur (aI Γ 6 u)) (hS : hat as h S (ob 4 [.ref sq])) (hsq : hat as h sq (aI Γ 80 g)) (hne : pr ≠ sq) : Con Γ l mX8_shabby rX8_shabby [.ref X, .int m] as h (fun r as' h' => as' = as ∧ r = some (.int (if pGr f * 10 ≤ m * pAll f then 0 else shS m yy wr 1000 1 (va_cpy f g 0 0 80))) ∧ ∃ g' : Nat → Int32, h' = hset h sq (aI Γ 80 g')) := by
  have e1 := hat_oa hX hsq
  have e2 := hat_oa hU hsq
  have e3 := hat_nl hur hsq (by decide)
  have e4 := hat_oa hS hsq
  have key : ∀ (d c : Nat) (gg : Nat → Int32) (r0 v2 : Int32) (ls : List (Nat × Value)) (h' : aH), c + d = 1001 → r0 = shS m yy wr d c gg → v2 = nI c → h' = hset h sq (aI Γ 80 gg) → lin ls [(0, .ref X), (1, .int m), (2, .int v2)] → V Γ l mX8_shabby rX8_shabby (Zm Γ rX8_shabby (fun r as' h' => as' = as ∧ r = some (.int r0) ∧ ∃ g' : Nat → Int32, h' = hset h sq (aI Γ 80 g'))) 0 0 57 ls [] as h' := by
    intro d
    induction d with
    | zero =>
      intro c gg r0 v2 ls h' hc hr e hh hl
      subst hr e hh
      refine V.at ?_ hl
      refine q_iload_n dX8_shabby_57 rfl rfl ?_
      refine q_sipush (v := 1000) dX8_shabby_58 rfl ?_
      refine q_icmp_gt 110 dX8_shabby_61 (by decide) (fun _ => ?_) (fun z => absurd (nI_lt (a := 1000) (by omega) (by omega)) z)
      refine q_bipush (v := (-9)) dX8_shabby_110 rfl ?_
      exact q_iret dX8_shabby_112 rfl (Nat.zero_le _) (Nat.zero_le _) (⟨rfl, rfl, _, rfl⟩)
    | succ d ih =>
      intro c gg r0 v2 ls h' hc hr e hh hl
      subst e hh
      refine V.at ?_ hl
      refine q_iload_n dX8_shabby_57 rfl rfl ?_
      refine q_sipush (v := 1000) dX8_shabby_58 rfl ?_
      refine q_icmp_gt 110 dX8_shabby_61 (by decide) (fun z => absurd z (nI_nlt (a := 1000) (by omega) (by omega))) (fun _ => ?_)
      refine q_aload_n dX8_shabby_64 rfl rfl ?_
      refine q_get dX8_shabby_65 fX8_shabby_29 (hat_ne hX e1) rfl ?_
      refine q_iconst (v := 5) dX8_shabby_68 rfl ?_
      refine q_callVd dX8_shabby_69 wX8_shabby_172 (c_of (j := 5) (hat_ne hU e2) (hat_ne hur e3) (by omega)) (hat_ne hU e2) ⟨_, _, rfl⟩ rfl rfl (Nat.le_of_ble_eq_true rfl) ⟨⟨Nat.le_of_ble_eq_true rfl, Nat.le_of_ble_eq_true rfl⟩, Nat.le_of_ble_eq_true rfl, Nat.le_of_ble_eq_true rfl⟩ ?_
      refine q_aload_n dX8_shabby_72 rfl rfl ?_
      rw [hwr]
      refine q_get dX8_shabby_73 fX8_shabby_75 (hat_ne hX e1) rfl ?_
      refine q_iload_n dX8_shabby_76 rfl rfl ?_
      refine q_iadd dX8_shabby_77 ?_
      rw [nI_add]
      refine q_callSd dX8_shabby_78 wX8_shabby_218 (c_divides (m := yy + c) hw0 (by omega) (by omega)) rfl rfl (Nat.le_of_ble_eq_true rfl) ⟨⟨Nat.le_of_ble_eq_true rfl, Nat.le_of_ble_eq_true rfl⟩, Nat.le_of_ble_eq_true rfl, Nat.le_of_ble_eq_true rfl⟩ ?_
      refine q_if_eq 104 dX8_shabby_81 (by decide) (fun cA => ?_) (fun cA => ?_)
      · first
        | (have hd : ¬ (yy + c) % wr = 0 := of_decide_eq_false (bI_0.mp cA)
           exact q_iinc1 dX8_shabby_104 rfl (by decide) (q_goto 57 dX8_shabby_107 (by decide) (ih (c + 1) gg _ _ _ _ (by omega) (by rw [hr]; simp only [shS]; rw [if_neg hd]) (nI_s c) rfl ⟨rfl, rfl, rfl, trivial⟩)))
        | (have hz : ¬ pGr (wearA gg) * 10 ≤ m * pAll (wearA gg) := fun z => by rw [if_pos z] at cB; exact absurd cB (by decide)
           exact q_iinc1 dX8_shabby_104 rfl (by decide) (q_goto 57 dX8_shabby_107 (by decide) (ih (c + 1) (wearA gg) _ _ _ _ (by omega) (by rw [hr]; simp only [shS]; rw [if_pos hd, if_neg hz]) (nI_s c) rfl ⟨rfl, rfl, rfl, trivial⟩)))
      · have hd : (yy + c) % wr = 0 := of_decide_eq_true (bI_n.mp cA)
        refine q_aload_n dX8_shabby_84 rfl rfl ?_
        refine q_get dX8_shabby_85 fX8_shabby_23 (hat_ne hX e1) rfl ?_
        refine q_callVd dX8_shabby_88 wX8_shabby_222 (c_loseGrain (hat_ne hS e4) (hat_set hsq)) (hat_ne hS e4) ⟨_, _, rfl⟩ rfl rfl (Nat.le_of_ble_eq_true rfl) ⟨⟨Nat.le_of_ble_eq_true rfl, Nat.le_of_ble_eq_true rfl⟩, Nat.le_of_ble_eq_true rfl, Nat.le_of_ble_eq_true rfl⟩ ?_
        refine V.hp ?_ hset_hset
        refine q_aload_n dX8_shabby_91 rfl rfl ?_
        refine q_get dX8_shabby_92 fX8_shabby_23 (hat_ne hX e1) rfl ?_
        refine q_iload_n dX8_shabby_95 rfl rfl ?_
        refine q_callVd dX8_shabby_96 wX8_shabby_231 (c_isShabby (hat_ne hS e4) (hat_set hsq)) (hat_ne hS e4) ⟨_, _, rfl⟩ rfl rfl (Nat.le_of_ble_eq_true rfl) ⟨⟨Nat.le_of_ble_eq_true rfl, Nat.le_of_ble_eq_true rfl⟩, Nat.le_of_ble_eq_true rfl, Nat.le_of_ble_eq_true rfl⟩ ?_
        refine q_if_eq 104 dX8_shabby_99 (by decide) (fun cB => ?_) (fun cB => ?_)
        · first
          | (have hd : ¬ (yy + c) % wr = 0 := of_decide_eq_false (bI_0.mp cA)
             exact q_iinc1 dX8_shabby_104 rfl (by decide) (q_goto 57 dX8_shabby_107 (by decide) (ih (c + 1) gg _ _ _ _ (by omega) (by rw [hr]; simp only [shS]; rw [if_neg hd]) (nI_s c) rfl ⟨rfl, rfl, rfl, trivial⟩)))
          | (have hz : ¬ pGr (wearA gg) * 10 ≤ m * pAll (wearA gg) := fun z => by rw [if_pos z] at cB; exact absurd cB (by decide)
             exact q_iinc1 dX8_shabby_104 rfl (by decide) (q_goto 57 dX8_shabby_107 (by decide) (ih (c + 1) (wearA gg) _ _ _ _ (by omega) (by rw [hr]; simp only [shS]; rw [if_pos hd, if_neg hz]) (nI_s c) rfl ⟨rfl, rfl, rfl, trivial⟩)))
        · refine q_iload_n dX8_shabby_102 rfl rfl ?_
          exact q_iret dX8_shabby_103 rfl (Nat.zero_le _) (Nat.zero_le _) (⟨rfl, by rw [hr]; simp only [shS]; rw [if_pos hd]; by_cases z : pGr (wearA gg) * 10 ≤ m * pAll (wearA gg); rw [if_pos z]; rw [if_neg z] at cB; exact absurd rfl cB, _, rfl⟩)
  refine Con.of (by decide +kernel) rfl rfl (Nat.le_of_ble_eq_true rfl) ?_
  refine q_iload_n dX8_shabby_0 rfl rfl ?_
  refine q_if_lt 10 dX8_shabby_1 (by decide) (fun z => absurd z (hm0)) (fun _ => ?_)
  refine q_iload_n dX8_shabby_4 rfl rfl ?_
  refine q_bipush (v := 100) dX8_shabby_5 rfl ?_
  refine q_icmp_le 12 dX8_shabby_7 (by decide) (fun _ => ?_) (fun z => absurd (hm) z)
  refine q_iload_n dX8_shabby_12 rfl rfl ?_
  refine q_bipush (v := 10) dX8_shabby_13 rfl ?_
  refine q_icmp_lt 28 dX8_shabby_15 (by decide) (fun z => absurd z (hm10)) (fun _ => ?_)
  refine q_aload_n dX8_shabby_18 rfl rfl ?_
  refine q_get dX8_shabby_19 fX8_shabby_19 (hX) rfl ?_
  refine q_callVd dX8_shabby_22 wX8_shabby_225 (c_allCoins hP hpr) (hP) ⟨_, _, rfl⟩ rfl rfl (Nat.le_of_ble_eq_true rfl) ⟨⟨Nat.le_of_ble_eq_true rfl, Nat.le_of_ble_eq_true rfl⟩, Nat.le_of_ble_eq_true rfl, Nat.le_of_ble_eq_true rfl⟩ ?_
  refine q_if_ne 31 dX8_shabby_25 (by decide) (fun _ => ?_) (fun z => absurd z (hall))
  refine q_aload_n dX8_shabby_31 rfl rfl ?_
  refine q_get dX8_shabby_32 fX8_shabby_19 (hX) rfl ?_
  refine q_iload_n dX8_shabby_35 rfl rfl ?_
  refine q_callVd dX8_shabby_36 wX8_shabby_231 (c_isShabby hP hpr) (hP) ⟨_, _, rfl⟩ rfl rfl (Nat.le_of_ble_eq_true rfl) ⟨⟨Nat.le_of_ble_eq_true rfl, Nat.le_of_ble_eq_true rfl⟩, Nat.le_of_ble_eq_true rfl, Nat.le_of_ble_eq_true rfl⟩ ?_
  refine q_if_eq 44 dX8_shabby_39 (by decide) (fun cS => ?_) (fun cS => ?_)
  · have hz : ¬ pGr f * 10 ≤ m * pAll f := fun z => by rw [if_pos z] at cS; exact absurd cS (by decide)
    rw [if_neg hz]
    refine q_aload_n dX8_shabby_44 rfl rfl ?_
    refine q_get dX8_shabby_45 fX8_shabby_23 (hX) rfl ?_
    refine q_aload_n dX8_shabby_48 rfl rfl ?_
    refine q_get dX8_shabby_49 fX8_shabby_19 (hX) rfl ?_
    refine q_callVd dX8_shabby_52 wX8_shabby_234 (c_copyFrom hS hsq hP hpr) (hS) ⟨_, _, rfl⟩ rfl rfl (Nat.le_of_ble_eq_true rfl) ⟨⟨Nat.le_of_ble_eq_true rfl, Nat.le_of_ble_eq_true rfl⟩, Nat.le_of_ble_eq_true rfl, Nat.le_of_ble_eq_true rfl⟩ ?_
    refine q_iconst (v := 1) dX8_shabby_55 rfl ?_
    refine q_istore_n dX8_shabby_56 rfl (by decide) ?_
    exact key 1000 1 _ _ _ _ _ (by omega) rfl rfl rfl ⟨rfl, rfl, rfl, trivial⟩
  · have hz : pGr f * 10 ≤ m * pAll f := by
      by_cases z : pGr f * 10 ≤ m * pAll f
      · exact z
      · rw [if_neg z] at cS; exact absurd rfl cS
    refine q_iconst (v := 0) dX8_shabby_42 rfl ?_
    exact q_iret dX8_shabby_43 rfl (Nat.zero_le _) (Nat.zero_le _) (⟨rfl, by rw [if_pos hz], g, (hset_same hsq.2).symm⟩)
theorem c_changer_bad {p c q : Int32} (hb : isP n p = false ∨ c < 0 ∨ 99 < c ∨ q < 0 ∨ 1 < q) (hX : hat as h X (xo T P S U M D L I tw dr lot yr tc)) (ht : hat as h tw (twn aw ax ay ao n)) : Det Γ l mX8_changer rX8_changer [.ref X, .int p, .int c, .int q] as h (some (.int (-1))) h := by
  refine Con.of (by decide +kernel) rfl rfl (Nat.le_of_ble_eq_true rfl) ?_
  refine q_aload_n dX8_changer_0 rfl rfl ?_
  refine q_iload_n dX8_changer_1 rfl rfl ?_
  refine q_callVd dX8_changer_2 wX8_changer_112 (c_isPerson hX ht) (hX) ⟨_, _, rfl⟩ rfl rfl (Nat.le_of_ble_eq_true rfl) ⟨⟨Nat.le_of_ble_eq_true rfl, Nat.le_of_ble_eq_true rfl⟩, Nat.le_of_ble_eq_true rfl, Nat.le_of_ble_eq_true rfl⟩ ?_
  refine q_if_eq 27 dX8_changer_5 (by decide) (fun cA => ?_) (fun cA => ?_)
  · refine q_iconst (v := (-1)) dX8_changer_27 rfl ?_
    exact q_iret dX8_changer_28 rfl (Nat.zero_le _) (Nat.zero_le _) (⟨rfl, rfl, rfl⟩)
  · refine q_iload_n dX8_changer_8 rfl rfl ?_
    refine q_if_lt 27 dX8_changer_9 (by decide) (fun cB => ?_) (fun cB => ?_)
    · refine q_iconst (v := (-1)) dX8_changer_27 rfl ?_
      exact q_iret dX8_changer_28 rfl (Nat.zero_le _) (Nat.zero_le _) (⟨rfl, rfl, rfl⟩)
    · refine q_iload_n dX8_changer_12 rfl rfl ?_
      refine q_bipush (v := 99) dX8_changer_13 rfl ?_
      refine q_icmp_gt 27 dX8_changer_15 (by decide) (fun cC => ?_) (fun cC => ?_)
      · refine q_iconst (v := (-1)) dX8_changer_27 rfl ?_
        exact q_iret dX8_changer_28 rfl (Nat.zero_le _) (Nat.zero_le _) (⟨rfl, rfl, rfl⟩)
      · refine q_iload_n dX8_changer_18 rfl rfl ?_
        refine q_if_lt 27 dX8_changer_19 (by decide) (fun cD => ?_) (fun cD => ?_)
        · refine q_iconst (v := (-1)) dX8_changer_27 rfl ?_
          exact q_iret dX8_changer_28 rfl (Nat.zero_le _) (Nat.zero_le _) (⟨rfl, rfl, rfl⟩)
        · refine q_iload_n dX8_changer_22 rfl rfl ?_
          refine q_iconst (v := 1) dX8_changer_23 rfl ?_
          refine q_icmp_le 29 dX8_changer_24 (by decide) (fun cE => ?_) (fun cE => ?_)
          · exact absurd hb (by rintro (z | z | z | z | z) <;> first | exact cA (by rw [z]; rfl) | exact cB z | exact cC z | exact cD z | exact absurd cE (Int32.not_le.mpr z))
          · refine q_iconst (v := (-1)) dX8_changer_27 rfl ?_
            exact q_iret dX8_changer_28 rfl (Nat.zero_le _) (Nat.zero_le _) (⟨rfl, rfl, rfl⟩)
theorem c_changer {p : Nat} {c q : Int32} (hp : p < n) (hn : n ≤ 8) (hc0 : ¬ c < 0) (hc : ¬ 99 < c) (hq0 : ¬ q < 0) (hq : q ≤ 1) (hX : hat as h X (xo T P S U M D L I tw dr lot yr tc)) (ht : hat as h tw (twn aw ax ay ao n)) (hP : hat as h P (ob 4 [.ref pr])) (hpr : hat as h pr (aI Γ 80 f)) (hU : hat as h U (ob 7 [.ref ur])) (hur : hat as h ur (aI Γ 6 u)) : Det Γ l mX8_changer rX8_changer [.ref X, .int (nI p), .int c, .int q] as h (some (.int (if q = 0 then (chX f u p c 11).1 else (chX f u p c 11).2))) h := by
  have key : ∀ (d j : Nat) (v4 v5 v6 : Int32) (ls : List (Nat × Value)), j + d = 11 → v4 = (chX f u p c j).1 → v5 = (chX f u p c j).2 → v6 = nI j → lin ls [(0, .ref X), (1, .int (nI p)), (2, .int c), (3, .int q), (4, .int v4), (5, .int v5), (6, .int v6)] → V Γ l mX8_changer rX8_changer (Zm Γ rX8_changer (qD (some (.int (if q = 0 then (chX f u p c 11).1 else (chX f u p c 11).2))) as h)) 0 0 38 ls [] as h := by
    intro d
    induction d with
    | zero =>
      intro j v4 v5 v6 ls hj e4 e5 e6 hl
      subst e4 e5 e6
      refine V.at ?_ hl
      refine q_iload dX8_changer_38 rfl ?_
      refine q_bipush (v := 10) dX8_changer_40 rfl ?_
      refine q_icmp_gt 76 dX8_changer_42 (by decide) (fun _ => ?_) (fun z => absurd (nI_lt (a := 10) (by omega) (by omega)) z)
      refine q_iload_n dX8_changer_76 rfl rfl ?_
      refine q_if_ne 85 dX8_changer_77 (by decide) (fun cQ => ?_) (fun cQ => ?_)
      · refine q_iload dX8_changer_85 rfl ?_
        exact q_iret dX8_changer_87 rfl (Nat.zero_le _) (Nat.zero_le _) (⟨by rw [show j = 11 by omega]; first | rw [if_pos cQ] | rw [if_neg cQ], rfl, rfl⟩)
      · refine q_iload dX8_changer_80 rfl ?_
        refine q_goto 87 dX8_changer_82 (by decide) ?_
        exact q_iret dX8_changer_87 rfl (Nat.zero_le _) (Nat.zero_le _) (⟨by rw [show j = 11 by omega]; first | rw [if_pos cQ] | rw [if_neg cQ], rfl, rfl⟩)
    | succ d ih =>
      intro j v4 v5 v6 ls hj e4 e5 e6 hl
      subst e4 e5 e6
      refine V.at ?_ hl
      refine q_iload dX8_changer_38 rfl ?_
      refine q_bipush (v := 10) dX8_changer_40 rfl ?_
      refine q_icmp_gt 76 dX8_changer_42 (by decide) (fun z => absurd z (nI_nlt (a := 10) (by omega) (by omega))) (fun _ => ?_)
      refine q_aload_n dX8_changer_45 rfl rfl ?_
      refine q_iload_n dX8_changer_46 rfl rfl ?_
      refine q_iload dX8_changer_47 rfl ?_
      refine q_iload_n dX8_changer_49 rfl rfl ?_
      refine q_callVd dX8_changer_50 wX8_changer_238 (c_heldAt (by omega) hX hP hpr hU hur) (hX) ⟨_, _, rfl⟩ rfl rfl (Nat.le_of_ble_eq_true rfl) ⟨⟨Nat.le_of_ble_eq_true rfl, Nat.le_of_ble_eq_true rfl⟩, Nat.le_of_ble_eq_true rfl, Nat.le_of_ble_eq_true rfl⟩ ?_
      refine q_istore dX8_changer_53 (by decide) ?_
      refine q_iload dX8_changer_55 rfl ?_
      refine q_iload dX8_changer_57 rfl ?_
      refine q_icmp_lt 70 dX8_changer_59 (by decide) (fun cA => ?_) (fun cA => ?_)
      · refine q_iinc1 dX8_changer_70 rfl (by decide) ?_
        refine q_goto 38 dX8_changer_73 (by decide) ?_
        exact ih (j + 1) _ _ _ _ (by omega) (by simp only [chX]; first | rw [if_pos cA] | rw [if_neg cA]) (by simp only [chX]; first | rw [if_pos cA] | rw [if_neg cA]) (nI_s j) ⟨rfl, rfl, rfl, rfl, rfl, rfl, rfl, trivial⟩
      · refine q_iload dX8_changer_62 rfl ?_
        refine q_istore dX8_changer_64 (by decide) ?_
        refine q_iload dX8_changer_66 rfl ?_
        refine q_istore dX8_changer_68 (by decide) ?_
        refine q_iinc1 dX8_changer_70 rfl (by decide) ?_
        refine q_goto 38 dX8_changer_73 (by decide) ?_
        exact ih (j + 1) _ _ _ _ (by omega) (by simp only [chX]; first | rw [if_pos cA] | rw [if_neg cA]) (by simp only [chX]; first | rw [if_pos cA] | rw [if_neg cA]) (nI_s j) ⟨rfl, rfl, rfl, rfl, rfl, rfl, rfl, trivial⟩
  refine Con.of (by decide +kernel) rfl rfl (Nat.le_of_ble_eq_true rfl) ?_
  refine q_aload_n dX8_changer_0 rfl rfl ?_
  refine q_iload_n dX8_changer_1 rfl rfl ?_
  refine q_callVd dX8_changer_2 wX8_changer_112 (c_isPerson hX ht) (hX) ⟨_, _, rfl⟩ rfl rfl (Nat.le_of_ble_eq_true rfl) ⟨⟨Nat.le_of_ble_eq_true rfl, Nat.le_of_ble_eq_true rfl⟩, Nat.le_of_ble_eq_true rfl, Nat.le_of_ble_eq_true rfl⟩ ?_
  refine q_if_eq 27 dX8_changer_5 (by decide) (fun z => absurd z (by rw [isP_nI hp hn]; decide)) (fun _ => ?_)
  refine q_iload_n dX8_changer_8 rfl rfl ?_
  refine q_if_lt 27 dX8_changer_9 (by decide) (fun z => absurd z (hc0)) (fun _ => ?_)
  refine q_iload_n dX8_changer_12 rfl rfl ?_
  refine q_bipush (v := 99) dX8_changer_13 rfl ?_
  refine q_icmp_gt 27 dX8_changer_15 (by decide) (fun z => absurd z (hc)) (fun _ => ?_)
  refine q_iload_n dX8_changer_18 rfl rfl ?_
  refine q_if_lt 27 dX8_changer_19 (by decide) (fun z => absurd z (hq0)) (fun _ => ?_)
  refine q_iload_n dX8_changer_22 rfl rfl ?_
  refine q_iconst (v := 1) dX8_changer_23 rfl ?_
  refine q_icmp_le 29 dX8_changer_24 (by decide) (fun _ => ?_) (fun z => absurd (hq) z)
  refine q_iconst (v := 0) dX8_changer_29 rfl ?_
  refine q_istore dX8_changer_30 (by decide) ?_
  refine q_iconst (v := (-1)) dX8_changer_32 rfl ?_
  refine q_istore dX8_changer_33 (by decide) ?_
  refine q_iconst (v := 0) dX8_changer_35 rfl ?_
  refine q_istore dX8_changer_36 (by decide) ?_
  exact key 11 0 _ _ _ _ (by omega) rfl rfl rfl ⟨rfl, rfl, rfl, rfl, rfl, rfl, rfl, trivial⟩
theorem c_law_bad {lr : Nat} {j q v : Int32} (hb : j < 0 ∨ 9 ≤ j ∨ q < 0 ∨ 3 ≤ q ∨ v < 0 ∨ 99 < v) (hX : hat as h X (xo T P S U M D L I tw dr lot yr tc)) (hL : hat as h L (ob 2 [.ref lr])) : Det Γ l mX8_law rX8_law [.ref X, .int j, .int q, .int v] as h (some (.int (-1))) h := by
  refine Con.of (by decide +kernel) rfl rfl (Nat.le_of_ble_eq_true rfl) ?_
  refine q_aload_n dX8_law_0 rfl rfl ?_
  refine q_get dX8_law_1 fX8_law_50 (hX) rfl ?_
  refine q_iload_n dX8_law_4 rfl rfl ?_
  refine q_iload_n dX8_law_5 rfl rfl ?_
  refine q_iload_n dX8_law_6 rfl rfl ?_
  refine q_callVd dX8_law_7 wX8_law_242 (c_lset_bad hL hb) (hL) ⟨_, _, rfl⟩ rfl rfl (Nat.le_of_ble_eq_true rfl) ⟨⟨Nat.le_of_ble_eq_true rfl, Nat.le_of_ble_eq_true rfl⟩, Nat.le_of_ble_eq_true rfl, Nat.le_of_ble_eq_true rfl⟩ ?_
  exact q_iret dX8_law_10 rfl (Nat.zero_le _) (Nat.zero_le _) (⟨rfl, rfl, rfl⟩)
theorem c_law {lr j q : Nat} {v : Int32} (hj : j < 9) (hq : q < 3) (hv0 : ¬ v < 0) (hv : v ≤ 99) (hX : hat as h X (xo T P S U M D L I tw dr lot yr tc)) (hL : hat as h L (ob 2 [.ref lr])) (hlr : hat as h lr (aI Γ 27 lw)) : Det Γ l mX8_law rX8_law [.ref X, .int (nI j), .int (nI q), .int v] as h (some (.int (lw (j * 3 + q)))) (hset h lr (aI Γ 27 (upd lw (j * 3 + q) v))) := by
  refine Con.of (by decide +kernel) rfl rfl (Nat.le_of_ble_eq_true rfl) ?_
  refine q_aload_n dX8_law_0 rfl rfl ?_
  refine q_get dX8_law_1 fX8_law_50 (hX) rfl ?_
  refine q_iload_n dX8_law_4 rfl rfl ?_
  refine q_iload_n dX8_law_5 rfl rfl ?_
  refine q_iload_n dX8_law_6 rfl rfl ?_
  refine q_callVd dX8_law_7 wX8_law_242 (c_lset hL hlr hj hq hv0 hv) (hL) ⟨_, _, rfl⟩ rfl rfl (Nat.le_of_ble_eq_true rfl) ⟨⟨Nat.le_of_ble_eq_true rfl, Nat.le_of_ble_eq_true rfl⟩, Nat.le_of_ble_eq_true rfl, Nat.le_of_ble_eq_true rfl⟩ ?_
  exact q_iret dX8_law_10 rfl (Nat.zero_le _) (Nat.zero_le _) (⟨rfl, rfl, rfl⟩)
theorem c_cheapest_bad {a b q : Int32} (hb : a < 0 ∨ 999 < a ∨ b < 0 ∨ 999 < b ∨ q < 0 ∨ 1 < q) : Det Γ l mX8_cheapest rX8_cheapest [.ref X, .int a, .int b, .int q] as h (some (.int (-1))) h := by
  refine Con.of (by decide +kernel) rfl rfl (Nat.le_of_ble_eq_true rfl) ?_
  refine q_iload_n dX8_cheapest_0 rfl rfl ?_
  refine q_if_lt 31 dX8_cheapest_1 (by decide) (fun cA => ?_) (fun cA => ?_)
  · refine q_iconst (v := (-1)) dX8_cheapest_31 rfl ?_
    exact q_iret dX8_cheapest_32 rfl (Nat.zero_le _) (Nat.zero_le _) (⟨rfl, rfl, rfl⟩)
  · refine q_iload_n dX8_cheapest_4 rfl rfl ?_
    refine q_sipush (v := 999) dX8_cheapest_5 rfl ?_
    refine q_icmp_gt 31 dX8_cheapest_8 (by decide) (fun cB => ?_) (fun cB => ?_)
    · refine q_iconst (v := (-1)) dX8_cheapest_31 rfl ?_
      exact q_iret dX8_cheapest_32 rfl (Nat.zero_le _) (Nat.zero_le _) (⟨rfl, rfl, rfl⟩)
    · refine q_iload_n dX8_cheapest_11 rfl rfl ?_
      refine q_if_lt 31 dX8_cheapest_12 (by decide) (fun cC => ?_) (fun cC => ?_)
      · refine q_iconst (v := (-1)) dX8_cheapest_31 rfl ?_
        exact q_iret dX8_cheapest_32 rfl (Nat.zero_le _) (Nat.zero_le _) (⟨rfl, rfl, rfl⟩)
      · refine q_iload_n dX8_cheapest_15 rfl rfl ?_
        refine q_sipush (v := 999) dX8_cheapest_16 rfl ?_
        refine q_icmp_gt 31 dX8_cheapest_19 (by decide) (fun cD => ?_) (fun cD => ?_)
        · refine q_iconst (v := (-1)) dX8_cheapest_31 rfl ?_
          exact q_iret dX8_cheapest_32 rfl (Nat.zero_le _) (Nat.zero_le _) (⟨rfl, rfl, rfl⟩)
        · refine q_iload_n dX8_cheapest_22 rfl rfl ?_
          refine q_if_lt 31 dX8_cheapest_23 (by decide) (fun cE => ?_) (fun cE => ?_)
          · refine q_iconst (v := (-1)) dX8_cheapest_31 rfl ?_
            exact q_iret dX8_cheapest_32 rfl (Nat.zero_le _) (Nat.zero_le _) (⟨rfl, rfl, rfl⟩)
          · refine q_iload_n dX8_cheapest_26 rfl rfl ?_
            refine q_iconst (v := 1) dX8_cheapest_27 rfl ?_
            refine q_icmp_le 33 dX8_cheapest_28 (by decide) (fun cF => ?_) (fun cF => ?_)
            · exact absurd hb (by rintro (z | z | z | z | z | z) <;> first | exact cA z | exact cB z | exact cC z | exact cD z | exact cE z | exact absurd cF (Int32.not_le.mpr z))
            · refine q_iconst (v := (-1)) dX8_cheapest_31 rfl ?_
              exact q_iret dX8_cheapest_32 rfl (Nat.zero_le _) (Nat.zero_le _) (⟨rfl, rfl, rfl⟩)
theorem c_cheapest {lr : Nat} {a b q : Int32} (ha0 : ¬ a < 0) (ha : ¬ 999 < a) (hb0 : ¬ b < 0) (hb : ¬ 999 < b) (hq0 : ¬ q < 0) (hq : q ≤ 1) (hX : hat as h X (xo T P S U M D L I tw dr lot yr tc)) (hU : hat as h U (ob 7 [.ref ur])) (hur : hat as h ur (aI Γ 6 u)) (hL : hat as h L (ob 2 [.ref lr])) (hlr : hat as h lr (aI Γ 27 lw)) : Det Γ l mX8_cheapest rX8_cheapest [.ref X, .int a, .int b, .int q] as h (some (.int (if (xCh lw (u 1 - a) (b - u 2) 512).1 = -9 ∨ q = 1 then (xCh lw (u 1 - a) (b - u 2) 512).1 else lawS lw (xCh lw (u 1 - a) (b - u 2) 512).1 0 9))) h := by
  refine Con.of (by decide +kernel) rfl rfl (Nat.le_of_ble_eq_true rfl) ?_
  refine q_iload_n dX8_cheapest_0 rfl rfl ?_
  refine q_if_lt 31 dX8_cheapest_1 (by decide) (fun z => absurd z (ha0)) (fun _ => ?_)
  refine q_iload_n dX8_cheapest_4 rfl rfl ?_
  refine q_sipush (v := 999) dX8_cheapest_5 rfl ?_
  refine q_icmp_gt 31 dX8_cheapest_8 (by decide) (fun z => absurd z (ha)) (fun _ => ?_)
  refine q_iload_n dX8_cheapest_11 rfl rfl ?_
  refine q_if_lt 31 dX8_cheapest_12 (by decide) (fun z => absurd z (hb0)) (fun _ => ?_)
  refine q_iload_n dX8_cheapest_15 rfl rfl ?_
  refine q_sipush (v := 999) dX8_cheapest_16 rfl ?_
  refine q_icmp_gt 31 dX8_cheapest_19 (by decide) (fun z => absurd z (hb)) (fun _ => ?_)
  refine q_iload_n dX8_cheapest_22 rfl rfl ?_
  refine q_if_lt 31 dX8_cheapest_23 (by decide) (fun z => absurd z (hq0)) (fun _ => ?_)
  refine q_iload_n dX8_cheapest_26 rfl rfl ?_
  refine q_iconst (v := 1) dX8_cheapest_27 rfl ?_
  refine q_icmp_le 33 dX8_cheapest_28 (by decide) (fun _ => ?_) (fun z => absurd (hq) z)
  refine q_aload_n dX8_cheapest_33 rfl rfl ?_
  refine q_get dX8_cheapest_34 fX8_cheapest_50 (hX) rfl ?_
  refine q_aload_n dX8_cheapest_37 rfl rfl ?_
  refine q_get dX8_cheapest_38 fX8_cheapest_29 (hX) rfl ?_
  refine q_iconst (v := 1) dX8_cheapest_41 rfl ?_
  refine q_callVd dX8_cheapest_42 wX8_cheapest_172 (c_of (j := 1) hU hur (by omega)) (hU) ⟨_, _, rfl⟩ rfl rfl (Nat.le_of_ble_eq_true rfl) ⟨⟨Nat.le_of_ble_eq_true rfl, Nat.le_of_ble_eq_true rfl⟩, Nat.le_of_ble_eq_true rfl, Nat.le_of_ble_eq_true rfl⟩ ?_
  refine q_iload_n dX8_cheapest_45 rfl rfl ?_
  refine q_isub dX8_cheapest_46 ?_
  refine q_iload_n dX8_cheapest_47 rfl rfl ?_
  refine q_aload_n dX8_cheapest_48 rfl rfl ?_
  refine q_get dX8_cheapest_49 fX8_cheapest_29 (hX) rfl ?_
  refine q_iconst (v := 2) dX8_cheapest_52 rfl ?_
  refine q_callVd dX8_cheapest_53 wX8_cheapest_172 (c_of (j := 2) hU hur (by omega)) (hU) ⟨_, _, rfl⟩ rfl rfl (Nat.le_of_ble_eq_true rfl) ⟨⟨Nat.le_of_ble_eq_true rfl, Nat.le_of_ble_eq_true rfl⟩, Nat.le_of_ble_eq_true rfl, Nat.le_of_ble_eq_true rfl⟩ ?_
  refine q_isub dX8_cheapest_56 ?_
  refine q_callVd dX8_cheapest_57 wX8_cheapest_244 (c_cheapestSet hL hlr) (hL) ⟨_, _, rfl⟩ rfl rfl (Nat.le_of_ble_eq_true rfl) ⟨⟨Nat.le_of_ble_eq_true rfl, Nat.le_of_ble_eq_true rfl⟩, Nat.le_of_ble_eq_true rfl, Nat.le_of_ble_eq_true rfl⟩ ?_
  refine q_istore dX8_cheapest_60 (by decide) ?_
  refine q_iload dX8_cheapest_62 rfl ?_
  refine q_bipush (v := (-9)) dX8_cheapest_64 rfl ?_
  refine q_icmp_eq 74 dX8_cheapest_66 (by decide) (fun cA => ?_) (fun cA => ?_)
  · refine q_iload dX8_cheapest_74 rfl ?_
    exact q_iret dX8_cheapest_76 rfl (Nat.zero_le _) (Nat.zero_le _) (⟨by rw [if_pos (by first | exact Or.inr cB | exact Or.inl cA)], rfl, rfl⟩)
  · refine q_iload_n dX8_cheapest_69 rfl rfl ?_
    refine q_iconst (v := 1) dX8_cheapest_70 rfl ?_
    refine q_icmp_ne 77 dX8_cheapest_71 (by decide) (fun cB => ?_) (fun cB => ?_)
    · refine q_aload_n dX8_cheapest_77 rfl rfl ?_
      refine q_get dX8_cheapest_78 fX8_cheapest_50 (hX) rfl ?_
      refine q_iload dX8_cheapest_81 rfl ?_
      refine q_iconst (v := 0) dX8_cheapest_83 rfl ?_
      refine q_callVd dX8_cheapest_84 wX8_cheapest_247 (c_sumOf (w := 0) hL hlr (by omega)) (hL) ⟨_, _, rfl⟩ rfl rfl (Nat.le_of_ble_eq_true rfl) ⟨⟨Nat.le_of_ble_eq_true rfl, Nat.le_of_ble_eq_true rfl⟩, Nat.le_of_ble_eq_true rfl, Nat.le_of_ble_eq_true rfl⟩ ?_
      exact q_iret dX8_cheapest_87 rfl (Nat.zero_le _) (Nat.zero_le _) (⟨by rw [if_neg (by rintro (z | z); exact cA z; exact cB z)], rfl, rfl⟩)
    · refine q_iload dX8_cheapest_74 rfl ?_
      exact q_iret dX8_cheapest_76 rfl (Nat.zero_le _) (Nat.zero_le _) (⟨by rw [if_pos (by first | exact Or.inr cB | exact Or.inl cA)], rfl, rfl⟩)
theorem c_first_bad {s q : Int32} (hb : s < 0 ∨ 255 < s ∨ q < 0 ∨ 1 < q) : Det Γ l mX8_first rX8_first [.ref X, .int s, .int q] as h (some (.int (-1))) h := by
  refine Con.of (by decide +kernel) rfl rfl (Nat.le_of_ble_eq_true rfl) ?_
  refine q_iload_n dX8_first_0 rfl rfl ?_
  refine q_if_lt 20 dX8_first_1 (by decide) (fun cA => ?_) (fun cA => ?_)
  · refine q_iconst (v := (-1)) dX8_first_20 rfl ?_
    exact q_iret dX8_first_21 rfl (Nat.zero_le _) (Nat.zero_le _) (⟨rfl, rfl, rfl⟩)
  · refine q_iload_n dX8_first_4 rfl rfl ?_
    refine q_sipush (v := 255) dX8_first_5 rfl ?_
    refine q_icmp_gt 20 dX8_first_8 (by decide) (fun cB => ?_) (fun cB => ?_)
    · refine q_iconst (v := (-1)) dX8_first_20 rfl ?_
      exact q_iret dX8_first_21 rfl (Nat.zero_le _) (Nat.zero_le _) (⟨rfl, rfl, rfl⟩)
    · refine q_iload_n dX8_first_11 rfl rfl ?_
      refine q_if_lt 20 dX8_first_12 (by decide) (fun cC => ?_) (fun cC => ?_)
      · refine q_iconst (v := (-1)) dX8_first_20 rfl ?_
        exact q_iret dX8_first_21 rfl (Nat.zero_le _) (Nat.zero_le _) (⟨rfl, rfl, rfl⟩)
      · refine q_iload_n dX8_first_15 rfl rfl ?_
        refine q_iconst (v := 1) dX8_first_16 rfl ?_
        refine q_icmp_le 22 dX8_first_17 (by decide) (fun cD => ?_) (fun cD => ?_)
        · exact absurd hb (by rintro (z | z | z | z) <;> first | exact cA z | exact cB z | exact cC z | exact absurd cD (Int32.not_le.mpr z))
        · refine q_iconst (v := (-1)) dX8_first_20 rfl ?_
          exact q_iret dX8_first_21 rfl (Nat.zero_le _) (Nat.zero_le _) (⟨rfl, rfl, rfl⟩)
theorem c_first {s q : Int32} (hs0 : ¬ s < 0) (hs : ¬ 255 < s) (hq0 : ¬ q < 0) (hq : q ≤ 1) (hn : n ≤ 8) (hX : hat as h X (xo T P S U M D L I tw dr lot yr tc)) (ht : hat as h tw (twn aw ax ay ao n)) (ho : hat as h ao (aI Γ 8 o)) : Det Γ l mX8_first rX8_first [.ref X, .int s, .int q] as h (some (.int (if q = 0 then takF o n s else rndF o n s))) h := by
  refine Con.of (by decide +kernel) rfl rfl (Nat.le_of_ble_eq_true rfl) ?_
  refine q_iload_n dX8_first_0 rfl rfl ?_
  refine q_if_lt 20 dX8_first_1 (by decide) (fun z => absurd z (hs0)) (fun _ => ?_)
  refine q_iload_n dX8_first_4 rfl rfl ?_
  refine q_sipush (v := 255) dX8_first_5 rfl ?_
  refine q_icmp_gt 20 dX8_first_8 (by decide) (fun z => absurd z (hs)) (fun _ => ?_)
  refine q_iload_n dX8_first_11 rfl rfl ?_
  refine q_if_lt 20 dX8_first_12 (by decide) (fun z => absurd z (hq0)) (fun _ => ?_)
  refine q_iload_n dX8_first_15 rfl rfl ?_
  refine q_iconst (v := 1) dX8_first_16 rfl ?_
  refine q_icmp_le 22 dX8_first_17 (by decide) (fun _ => ?_) (fun z => absurd (hq) z)
  refine q_iload_n dX8_first_22 rfl rfl ?_
  refine q_if_ne 37 dX8_first_23 (by decide) (fun cQ => ?_) (fun cQ => ?_)
  · refine q_aload_n dX8_first_37 rfl rfl ?_
    refine q_get dX8_first_38 fX8_first_64 (hX) rfl ?_
    refine q_iload_n dX8_first_41 rfl rfl ?_
    refine q_callVd dX8_first_42 wX8_first_253 (c_roundsFrom ht ho hn) (ht) ⟨_, _, rfl⟩ rfl rfl (Nat.le_of_ble_eq_true rfl) ⟨⟨Nat.le_of_ble_eq_true rfl, Nat.le_of_ble_eq_true rfl⟩, Nat.le_of_ble_eq_true rfl, Nat.le_of_ble_eq_true rfl⟩ ?_
    exact q_iret dX8_first_45 rfl (Nat.zero_le _) (Nat.zero_le _) (⟨by first | rw [if_pos cQ] | rw [if_neg cQ], rfl, rfl⟩)
  · refine q_aload_n dX8_first_26 rfl rfl ?_
    refine q_get dX8_first_27 fX8_first_64 (hX) rfl ?_
    refine q_iload_n dX8_first_30 rfl rfl ?_
    refine q_callVd dX8_first_31 wX8_first_250 (c_takersFrom ht ho hn) (ht) ⟨_, _, rfl⟩ rfl rfl (Nat.le_of_ble_eq_true rfl) ⟨⟨Nat.le_of_ble_eq_true rfl, Nat.le_of_ble_eq_true rfl⟩, Nat.le_of_ble_eq_true rfl, Nat.le_of_ble_eq_true rfl⟩ ?_
    refine q_goto 45 dX8_first_34 (by decide) ?_
    exact q_iret dX8_first_45 rfl (Nat.zero_le _) (Nat.zero_le _) (⟨by first | rw [if_pos cQ] | rw [if_neg cQ], rfl, rfl⟩)
theorem c_seeds_bad {q : Int32} (hb : q < 0 ∨ 1 < q) : Det Γ l mX8_seeds rX8_seeds [.ref X, .int q] as h (some (.int (-1))) h := by
  refine Con.of (by decide +kernel) rfl rfl (Nat.le_of_ble_eq_true rfl) ?_
  refine q_iload_n dX8_seeds_0 rfl rfl ?_
  refine q_if_lt 9 dX8_seeds_1 (by decide) (fun cA => ?_) (fun cA => ?_)
  · refine q_iconst (v := (-1)) dX8_seeds_9 rfl ?_
    exact q_iret dX8_seeds_10 rfl (Nat.zero_le _) (Nat.zero_le _) (⟨rfl, rfl, rfl⟩)
  · refine q_iload_n dX8_seeds_4 rfl rfl ?_
    refine q_iconst (v := 1) dX8_seeds_5 rfl ?_
    refine q_icmp_le 11 dX8_seeds_6 (by decide) (fun cB => ?_) (fun cB => ?_)
    · exact absurd (hb.resolve_left cA) (Int32.not_lt.mpr cB)
    · refine q_iconst (v := (-1)) dX8_seeds_9 rfl ?_
      exact q_iret dX8_seeds_10 rfl (Nat.zero_le _) (Nat.zero_le _) (⟨rfl, rfl, rfl⟩)
theorem c_seeds {q : Int32} {E : Nat} (hq0 : ¬ q < 0) (hq : q ≤ 1) (hn : n ≤ 8) (hE : evI n = nI E) (hE2 : E < 256) (hX : hat as h X (xo T P S U M D L I tw dr lot yr tc)) (ht : hat as h tw (twn aw ax ay ao n)) (ho : hat as h ao (aI Γ 8 o)) : Det Γ l mX8_seeds rX8_seeds [.ref X, .int q] as h (some (.int (if q = 0 then bcI (lsS o n E) else lsS o n E))) h := by
  refine Con.of (by decide +kernel) rfl rfl (Nat.le_of_ble_eq_true rfl) ?_
  refine q_iload_n dX8_seeds_0 rfl rfl ?_
  refine q_if_lt 9 dX8_seeds_1 (by decide) (fun z => absurd z (hq0)) (fun _ => ?_)
  refine q_iload_n dX8_seeds_4 rfl rfl ?_
  refine q_iconst (v := 1) dX8_seeds_5 rfl ?_
  refine q_icmp_le 11 dX8_seeds_6 (by decide) (fun _ => ?_) (fun z => absurd (hq) z)
  refine q_aload_n dX8_seeds_11 rfl rfl ?_
  refine q_get dX8_seeds_12 fX8_seeds_64 (hX) rfl ?_
  refine q_callVd dX8_seeds_15 wX8_seeds_256 (c_leastSeeds ht ho hn hE hE2) (ht) ⟨_, _, rfl⟩ rfl rfl (Nat.le_of_ble_eq_true rfl) ⟨⟨Nat.le_of_ble_eq_true rfl, Nat.le_of_ble_eq_true rfl⟩, Nat.le_of_ble_eq_true rfl, Nat.le_of_ble_eq_true rfl⟩ ?_
  refine q_istore_n dX8_seeds_18 rfl (by decide) ?_
  refine q_iload_n dX8_seeds_19 rfl rfl ?_
  refine q_if_ne 30 dX8_seeds_20 (by decide) (fun cQ => ?_) (fun cQ => ?_)
  · refine q_iload_n dX8_seeds_30 rfl rfl ?_
    exact q_iret dX8_seeds_31 rfl (Nat.zero_le _) (Nat.zero_le _) (⟨by first | rw [if_pos cQ] | rw [if_neg cQ], rfl, rfl⟩)
  · refine q_iload_n dX8_seeds_23 rfl rfl ?_
    refine q_callSd dX8_seeds_24 wX8_seeds_259 (c_bitCount) rfl rfl (Nat.le_of_ble_eq_true rfl) ⟨⟨Nat.le_of_ble_eq_true rfl, Nat.le_of_ble_eq_true rfl⟩, Nat.le_of_ble_eq_true rfl, Nat.le_of_ble_eq_true rfl⟩ ?_
    refine q_goto 31 dX8_seeds_27 (by decide) ?_
    exact q_iret dX8_seeds_31 rfl (Nat.zero_le _) (Nat.zero_le _) (⟨by first | rw [if_pos cQ] | rw [if_neg cQ], rfl, rfl⟩)
theorem c_labour_bad {p q : Int32} (hb : isP n p = false ∨ q.toInt < 0 ∨ 6 < q.toInt) (hX : hat as h X (xo T P S U M D L I tw dr lot yr tc)) (ht : hat as h tw (twn aw ax ay ao n)) : Det Γ l mX8_labour rX8_labour [.ref X, .int q, .int p] as h (some (.int (-1))) h := by
  refine Con.of (by decide +kernel) rfl rfl (Nat.le_of_ble_eq_true rfl) ?_
  refine q_aload_n dX8_labour_0 rfl rfl ?_
  refine q_iload_n dX8_labour_1 rfl rfl ?_
  refine q_callVd dX8_labour_2 wX8_labour_112 (c_isPerson hX ht) (hX) ⟨_, _, rfl⟩ rfl rfl (Nat.le_of_ble_eq_true rfl) ⟨⟨Nat.le_of_ble_eq_true rfl, Nat.le_of_ble_eq_true rfl⟩, Nat.le_of_ble_eq_true rfl, Nat.le_of_ble_eq_true rfl⟩ ?_
  refine q_if_ne 10 dX8_labour_5 (by decide) (fun cA => ?_) (fun cA => ?_)
  · refine q_iload_n dX8_labour_10 rfl rfl ?_
    refine q_tableOut 94 dX8_labour_11 (hb.resolve_left (fun z => by rw [z] at cA; exact cA rfl)) (by decide) ?_
    refine q_iconst (v := (-1)) dX8_labour_94 rfl ?_
    exact q_iret dX8_labour_95 rfl (Nat.zero_le _) (Nat.zero_le _) (⟨rfl, rfl, rfl⟩)
  · refine q_iconst (v := (-1)) dX8_labour_8 rfl ?_
    exact q_iret dX8_labour_9 rfl (Nat.zero_le _) (Nat.zero_le _) (⟨rfl, rfl, rfl⟩)
theorem c_labour {p j : Nat} (hp : p < n) (hn : n ≤ 8) (hj : j < 7) (hlim : lim ≤ 9) (hu : u 0 = nI lim) (hX : hat as h X (xo T P S U M D L I tw dr lot yr tc)) (ht : hat as h tw (twn aw ax ay ao n)) (hx : hat as h ax (aI Γ 8 x)) (ho : hat as h ao (aI Γ 8 o)) (hP : hat as h P (ob 4 [.ref pr])) (hpr : hat as h pr (aI Γ 80 f)) (hU : hat as h U (ob 7 [.ref ur])) (hur : hat as h ur (aI Γ 6 u)) : Det Γ l mX8_labour rX8_labour [.ref X, .int (nI j), .int (nI p)] as h (some (.int (lbA f u x o lim p j))) (hset h X (xo T P S U M D L I tw dr lot yr (lbT tc j))) := by
  have hp8 : p < 8 := by omega
  have e : bI (isP n (nI p)) = 1 := by rw [isP_nI hp hn]; rfl
  refine Con.of (by decide +kernel) rfl rfl (Nat.le_of_ble_eq_true rfl) ?_
  rcases (show j = 0 ∨ j = 1 ∨ j = 2 ∨ j = 3 ∨ j = 4 ∨ j = 5 ∨ j = 6 by omega) with rfl | rfl | rfl | rfl | rfl | rfl | rfl
  · skip
    refine q_aload_n dX8_labour_0 rfl rfl ?_
    refine q_iload_n dX8_labour_1 rfl rfl ?_
    refine q_callVd dX8_labour_2 wX8_labour_112 (c_isPerson hX ht) (hX) ⟨_, _, rfl⟩ rfl rfl (Nat.le_of_ble_eq_true rfl) ⟨⟨Nat.le_of_ble_eq_true rfl, Nat.le_of_ble_eq_true rfl⟩, Nat.le_of_ble_eq_true rfl, Nat.le_of_ble_eq_true rfl⟩ ?_
    refine q_if_ne 10 dX8_labour_5 (by decide) (fun _ => ?_) (fun z => absurd z (by rw [e]; decide))
    refine q_iload_n dX8_labour_10 rfl rfl ?_
    refine q_tableIn 52 dX8_labour_11 (by decide) (by decide) rfl (by decide) ?_
    refine q_aload_n dX8_labour_52 rfl rfl ?_
    refine q_iload_n dX8_labour_53 rfl rfl ?_
    refine q_callVd dX8_labour_54 wX8_labour_264 (c_asWay hp8 hX hP hpr) (hX) ⟨_, _, rfl⟩ rfl rfl (Nat.le_of_ble_eq_true rfl) ⟨⟨Nat.le_of_ble_eq_true rfl, Nat.le_of_ble_eq_true rfl⟩, Nat.le_of_ble_eq_true rfl, Nat.le_of_ble_eq_true rfl⟩ ?_
    exact q_iret dX8_labour_57 rfl (Nat.zero_le _) (Nat.zero_le _) (⟨rfl, rfl, rfl⟩)
  · skip
    refine q_aload_n dX8_labour_0 rfl rfl ?_
    refine q_iload_n dX8_labour_1 rfl rfl ?_
    refine q_callVd dX8_labour_2 wX8_labour_112 (c_isPerson hX ht) (hX) ⟨_, _, rfl⟩ rfl rfl (Nat.le_of_ble_eq_true rfl) ⟨⟨Nat.le_of_ble_eq_true rfl, Nat.le_of_ble_eq_true rfl⟩, Nat.le_of_ble_eq_true rfl, Nat.le_of_ble_eq_true rfl⟩ ?_
    refine q_if_ne 10 dX8_labour_5 (by decide) (fun _ => ?_) (fun z => absurd z (by rw [e]; decide))
    refine q_iload_n dX8_labour_10 rfl rfl ?_
    refine q_tableIn 58 dX8_labour_11 (by decide) (by decide) rfl (by decide) ?_
    refine q_aload_n dX8_labour_58 rfl rfl ?_
    refine q_iload_n dX8_labour_59 rfl rfl ?_
    refine q_callVd dX8_labour_60 wX8_labour_267 (c_asTale hp8 hX hP hpr) (hX) ⟨_, _, rfl⟩ rfl rfl (Nat.le_of_ble_eq_true rfl) ⟨⟨Nat.le_of_ble_eq_true rfl, Nat.le_of_ble_eq_true rfl⟩, Nat.le_of_ble_eq_true rfl, Nat.le_of_ble_eq_true rfl⟩ ?_
    exact q_iret dX8_labour_63 rfl (Nat.zero_le _) (Nat.zero_le _) (⟨rfl, rfl, rfl⟩)
  · skip
    refine q_aload_n dX8_labour_0 rfl rfl ?_
    refine q_iload_n dX8_labour_1 rfl rfl ?_
    refine q_callVd dX8_labour_2 wX8_labour_112 (c_isPerson hX ht) (hX) ⟨_, _, rfl⟩ rfl rfl (Nat.le_of_ble_eq_true rfl) ⟨⟨Nat.le_of_ble_eq_true rfl, Nat.le_of_ble_eq_true rfl⟩, Nat.le_of_ble_eq_true rfl, Nat.le_of_ble_eq_true rfl⟩ ?_
    refine q_if_ne 10 dX8_labour_5 (by decide) (fun _ => ?_) (fun z => absurd z (by rw [e]; decide))
    refine q_iload_n dX8_labour_10 rfl rfl ?_
    refine q_tableIn 64 dX8_labour_11 (by decide) (by decide) rfl (by decide) ?_
    refine q_aload_n dX8_labour_64 rfl rfl ?_
    refine q_iload_n dX8_labour_65 rfl rfl ?_
    refine q_callVd dX8_labour_66 wX8_labour_270 (c_asLook hp8 hlim hX hP hpr hU hur hu) (hX) ⟨_, _, rfl⟩ rfl rfl (Nat.le_of_ble_eq_true rfl) ⟨⟨Nat.le_of_ble_eq_true rfl, Nat.le_of_ble_eq_true rfl⟩, Nat.le_of_ble_eq_true rfl, Nat.le_of_ble_eq_true rfl⟩ ?_
    exact q_iret dX8_labour_69 rfl (Nat.zero_le _) (Nat.zero_le _) (⟨rfl, rfl, rfl⟩)
  · skip
    refine q_aload_n dX8_labour_0 rfl rfl ?_
    refine q_iload_n dX8_labour_1 rfl rfl ?_
    refine q_callVd dX8_labour_2 wX8_labour_112 (c_isPerson hX ht) (hX) ⟨_, _, rfl⟩ rfl rfl (Nat.le_of_ble_eq_true rfl) ⟨⟨Nat.le_of_ble_eq_true rfl, Nat.le_of_ble_eq_true rfl⟩, Nat.le_of_ble_eq_true rfl, Nat.le_of_ble_eq_true rfl⟩ ?_
    refine q_if_ne 10 dX8_labour_5 (by decide) (fun _ => ?_) (fun z => absurd z (by rw [e]; decide))
    refine q_iload_n dX8_labour_10 rfl rfl ?_
    refine q_tableIn 70 dX8_labour_11 (by decide) (by decide) rfl (by decide) ?_
    refine q_aload_n dX8_labour_70 rfl rfl ?_
    refine q_iload_n dX8_labour_71 rfl rfl ?_
    refine q_callVd dX8_labour_72 wX8_labour_273 (c_asSome hp8 hlim hX hP hpr hU hur hu ht hx) (hX) ⟨_, _, rfl⟩ rfl rfl (Nat.le_of_ble_eq_true rfl) ⟨⟨Nat.le_of_ble_eq_true rfl, Nat.le_of_ble_eq_true rfl⟩, Nat.le_of_ble_eq_true rfl, Nat.le_of_ble_eq_true rfl⟩ ?_
    exact q_iret dX8_labour_75 rfl (Nat.zero_le _) (Nat.zero_le _) (⟨rfl, rfl, rfl⟩)
  · skip
    refine q_aload_n dX8_labour_0 rfl rfl ?_
    refine q_iload_n dX8_labour_1 rfl rfl ?_
    refine q_callVd dX8_labour_2 wX8_labour_112 (c_isPerson hX ht) (hX) ⟨_, _, rfl⟩ rfl rfl (Nat.le_of_ble_eq_true rfl) ⟨⟨Nat.le_of_ble_eq_true rfl, Nat.le_of_ble_eq_true rfl⟩, Nat.le_of_ble_eq_true rfl, Nat.le_of_ble_eq_true rfl⟩ ?_
    refine q_if_ne 10 dX8_labour_5 (by decide) (fun _ => ?_) (fun z => absurd z (by rw [e]; decide))
    refine q_iload_n dX8_labour_10 rfl rfl ?_
    refine q_tableIn 76 dX8_labour_11 (by decide) (by decide) rfl (by decide) ?_
    refine q_aload_n dX8_labour_76 rfl rfl ?_
    refine q_iload_n dX8_labour_77 rfl rfl ?_
    refine q_callVd dX8_labour_78 wX8_labour_276 (c_asPay hp8 hX hP hpr) (hX) ⟨_, _, rfl⟩ rfl rfl (Nat.le_of_ble_eq_true rfl) ⟨⟨Nat.le_of_ble_eq_true rfl, Nat.le_of_ble_eq_true rfl⟩, Nat.le_of_ble_eq_true rfl, Nat.le_of_ble_eq_true rfl⟩ ?_
    exact q_iret dX8_labour_81 rfl (Nat.zero_le _) (Nat.zero_le _) (⟨rfl, rfl, rfl⟩)
  · skip
    refine q_aload_n dX8_labour_0 rfl rfl ?_
    refine q_iload_n dX8_labour_1 rfl rfl ?_
    refine q_callVd dX8_labour_2 wX8_labour_112 (c_isPerson hX ht) (hX) ⟨_, _, rfl⟩ rfl rfl (Nat.le_of_ble_eq_true rfl) ⟨⟨Nat.le_of_ble_eq_true rfl, Nat.le_of_ble_eq_true rfl⟩, Nat.le_of_ble_eq_true rfl, Nat.le_of_ble_eq_true rfl⟩ ?_
    refine q_if_ne 10 dX8_labour_5 (by decide) (fun _ => ?_) (fun z => absurd z (by rw [e]; decide))
    refine q_iload_n dX8_labour_10 rfl rfl ?_
    refine q_tableIn 82 dX8_labour_11 (by decide) (by decide) rfl (by decide) ?_
    refine q_aload_n dX8_labour_82 rfl rfl ?_
    refine q_iload_n dX8_labour_83 rfl rfl ?_
    refine q_callVd dX8_labour_84 wX8_labour_279 (c_asKeep hp8 hX hP hpr) (hX) ⟨_, _, rfl⟩ rfl rfl (Nat.le_of_ble_eq_true rfl) ⟨⟨Nat.le_of_ble_eq_true rfl, Nat.le_of_ble_eq_true rfl⟩, Nat.le_of_ble_eq_true rfl, Nat.le_of_ble_eq_true rfl⟩ ?_
    exact q_iret dX8_labour_87 rfl (Nat.zero_le _) (Nat.zero_le _) (⟨rfl, rfl, rfl⟩)
  · skip
    refine q_aload_n dX8_labour_0 rfl rfl ?_
    refine q_iload_n dX8_labour_1 rfl rfl ?_
    refine q_callVd dX8_labour_2 wX8_labour_112 (c_isPerson hX ht) (hX) ⟨_, _, rfl⟩ rfl rfl (Nat.le_of_ble_eq_true rfl) ⟨⟨Nat.le_of_ble_eq_true rfl, Nat.le_of_ble_eq_true rfl⟩, Nat.le_of_ble_eq_true rfl, Nat.le_of_ble_eq_true rfl⟩ ?_
    refine q_if_ne 10 dX8_labour_5 (by decide) (fun _ => ?_) (fun z => absurd z (by rw [e]; decide))
    refine q_iload_n dX8_labour_10 rfl rfl ?_
    refine q_tableIn 88 dX8_labour_11 (by decide) (by decide) rfl (by decide) ?_
    refine q_aload_n dX8_labour_88 rfl rfl ?_
    refine q_iload_n dX8_labour_89 rfl rfl ?_
    refine q_callVd dX8_labour_90 wX8_labour_282 (c_asClip hp8 hX hP hpr ht ho) (hX) ⟨_, _, rfl⟩ rfl rfl (Nat.le_of_ble_eq_true rfl) ⟨⟨Nat.le_of_ble_eq_true rfl, Nat.le_of_ble_eq_true rfl⟩, Nat.le_of_ble_eq_true rfl, Nat.le_of_ble_eq_true rfl⟩ ?_
    exact q_iret dX8_labour_93 rfl (Nat.zero_le _) (Nat.zero_le _) (⟨rfl, rfl, rfl⟩)
theorem isIm_nI {p : Nat} (hp : p < 2) : isIm (nI p) = true := by
  unfold isIm
  rw [Bool.and_eq_true, decide_eq_true_eq, decide_eq_true_eq]
  exact ⟨nI_pos (by omega), nI_le (b := 1) (by omega) (by omega)⟩
theorem c_keep_bad {q : Int32} (hb : isIm q = false) : Det Γ l mX8_keep rX8_keep [.ref X, .int q] as h (some (.int (-1))) h := by
  refine Con.of (by decide +kernel) rfl rfl (Nat.le_of_ble_eq_true rfl) ?_
  refine q_iload_n dX8_keep_0 rfl rfl ?_
  refine q_callSd dX8_keep_1 wX8_keep_285 (c_isImage) rfl rfl (Nat.le_of_ble_eq_true rfl) ⟨⟨Nat.le_of_ble_eq_true rfl, Nat.le_of_ble_eq_true rfl⟩, Nat.le_of_ble_eq_true rfl, Nat.le_of_ble_eq_true rfl⟩ ?_
  refine q_if_ne 9 dX8_keep_4 (by decide) (fun z => absurd (by rw [hb]; rfl) z) (fun _ => ?_)
  refine q_iconst (v := (-1)) dX8_keep_7 rfl ?_
  exact q_iret dX8_keep_8 rfl (Nat.zero_le _) (Nat.zero_le _) (⟨rfl, rfl, rfl⟩)
theorem c_back_bad {q : Int32} (hb : isIm q = false) : Det Γ l mX8_back rX8_back [.ref X, .int q] as h (some (.int (-1))) h := by
  refine Con.of (by decide +kernel) rfl rfl (Nat.le_of_ble_eq_true rfl) ?_
  refine q_iload_n dX8_back_0 rfl rfl ?_
  refine q_callSd dX8_back_1 wX8_back_285 (c_isImage) rfl rfl (Nat.le_of_ble_eq_true rfl) ⟨⟨Nat.le_of_ble_eq_true rfl, Nat.le_of_ble_eq_true rfl⟩, Nat.le_of_ble_eq_true rfl, Nat.le_of_ble_eq_true rfl⟩ ?_
  refine q_if_ne 9 dX8_back_4 (by decide) (fun z => absurd (by rw [hb]; rfl) z) (fun _ => ?_)
  refine q_iconst (v := (-1)) dX8_back_7 rfl ?_
  exact q_iret dX8_back_8 rfl (Nat.zero_le _) (Nat.zero_le _) (⟨rfl, rfl, rfl⟩)
theorem c_keep {j ij ip ir : Nat} {gi : Nat → Option Nat} {g : Nat → Int32} {l0 y0 k0 : Int32} (hj : j < 2) (hgj : gi j = some ij) (hX : hat as h X (xo T P S U M D L I tw dr lot yr tc)) (hI : hat as h I (aO Γ 2 gi)) (hij : hat as h ij (ob 1 [.ref ip, .int l0, .int y0, .int k0])) (hip : hat as h ip (ob 4 [.ref ir])) (hir : hat as h ir (aI Γ 80 g)) (hP : hat as h P (ob 4 [.ref pr])) (hpr : hat as h pr (aI Γ 80 f)) (hne : pr ≠ ir) : Det Γ l mX8_keep rX8_keep [.ref X, .int (nI j)] as h (some (.int (pAll f))) (hset (hset h ir (aI Γ 80 (va_cpy f g 0 0 80))) ij (ob 1 [.ref ip, .int lot, .int yr, .int 1])) := by
  have e1 := hat_oa hX hir
  have e2 := hat_oo hX hij (by decide)
  have e3 := hat_oa hij hir
  have e4 := hat_oa hP hir
  have e5 := hat_oo hP hij (by decide)
  have e6 := hat_ao hpr hij
  refine Con.of (by decide +kernel) rfl rfl (Nat.le_of_ble_eq_true rfl) ?_
  refine q_iload_n dX8_keep_0 rfl rfl ?_
  refine q_callSd dX8_keep_1 wX8_keep_285 (c_isImage) rfl rfl (Nat.le_of_ble_eq_true rfl) ⟨⟨Nat.le_of_ble_eq_true rfl, Nat.le_of_ble_eq_true rfl⟩, Nat.le_of_ble_eq_true rfl, Nat.le_of_ble_eq_true rfl⟩ ?_
  refine q_if_ne 9 dX8_keep_4 (by decide) (fun _ => ?_) (fun z => absurd z (by rw [isIm_nI hj]; decide))
  refine q_aload_n dX8_keep_9 rfl rfl ?_
  refine q_get dX8_keep_10 fX8_keep_57 (hX) rfl ?_
  refine q_iload_n dX8_keep_13 rfl rfl ?_
  refine q_aald dX8_keep_14 (hI) (in_nI hj (by omega)) ?_
  rw [nI_clamp (by omega), hgj]
  refine q_astore_n dX8_keep_15 rfl (by decide) ?_
  refine q_aload_n dX8_keep_16 rfl rfl ?_
  refine q_get dX8_keep_17 fX8_keep_288 (hij) rfl ?_
  refine q_aload_n dX8_keep_20 rfl rfl ?_
  refine q_get dX8_keep_21 fX8_keep_19 (hX) rfl ?_
  refine q_callVd dX8_keep_24 wX8_keep_234 (c_copyFrom hip hir hP hpr) (hip) ⟨_, _, rfl⟩ rfl rfl (Nat.le_of_ble_eq_true rfl) ⟨⟨Nat.le_of_ble_eq_true rfl, Nat.le_of_ble_eq_true rfl⟩, Nat.le_of_ble_eq_true rfl, Nat.le_of_ble_eq_true rfl⟩ ?_
  refine q_aload_n dX8_keep_27 rfl rfl ?_
  refine q_aload_n dX8_keep_28 rfl rfl ?_
  refine q_get dX8_keep_29 fX8_keep_71 (hat_ne hX e1) rfl ?_
  refine q_put dX8_keep_32 pX8_keep_289 (hat_ne hij e3) rfl rfl (Nat.le_of_ble_eq_true rfl) ?_
  refine q_aload_n dX8_keep_35 rfl rfl ?_
  refine q_aload_n dX8_keep_36 rfl rfl ?_
  refine q_get dX8_keep_37 fX8_keep_75 (hat_ne (hat_ne hX e1) e2) rfl ?_
  refine q_put dX8_keep_40 pX8_keep_290 (hat_set (hat_ne hij e3)) rfl rfl (Nat.le_of_ble_eq_true rfl) ?_
  refine q_aload_n dX8_keep_43 rfl rfl ?_
  refine q_iconst (v := 1) dX8_keep_44 rfl ?_
  refine q_put dX8_keep_45 pX8_keep_105 (hat_set (hat_set (hat_ne hij e3))) rfl rfl (Nat.le_of_ble_eq_true rfl) ?_
  refine V.hp (h' := hset (hset h ir (aI Γ 80 (va_cpy f g 0 0 80))) ij (ob 1 [.ref ip, .int lot, .int yr, .int 1])) ?_ (by rw [hset_hset, hset_hset]; rfl)
  refine q_aload_n dX8_keep_48 rfl rfl ?_
  refine q_get dX8_keep_49 fX8_keep_19 (hat_ne (hat_ne hX e1) e2) rfl ?_
  refine q_callVd dX8_keep_52 wX8_keep_225 (c_allCoins (hat_ne (hat_ne hP e4) e5) (hat_ne (hat_ne hpr hne) e6)) (hat_ne (hat_ne hP e4) e5) ⟨_, _, rfl⟩ rfl rfl (Nat.le_of_ble_eq_true rfl) ⟨⟨Nat.le_of_ble_eq_true rfl, Nat.le_of_ble_eq_true rfl⟩, Nat.le_of_ble_eq_true rfl, Nat.le_of_ble_eq_true rfl⟩ ?_
  exact q_iret dX8_keep_55 rfl (Nat.zero_le _) (Nat.zero_le _) (⟨rfl, rfl, rfl⟩)
theorem c_back_none {j ij ip : Nat} {gi : Nat → Option Nat} {l0 y0 : Int32} (hj : j < 2) (hgj : gi j = some ij) (hX : hat as h X (xo T P S U M D L I tw dr lot yr tc)) (hI : hat as h I (aO Γ 2 gi)) (hij : hat as h ij (ob 1 [.ref ip, .int l0, .int y0, .int 0])) : Det Γ l mX8_back rX8_back [.ref X, .int (nI j)] as h (some (.int (-2))) h := by
  refine Con.of (by decide +kernel) rfl rfl (Nat.le_of_ble_eq_true rfl) ?_
  refine q_iload_n dX8_back_0 rfl rfl ?_
  refine q_callSd dX8_back_1 wX8_back_285 (c_isImage) rfl rfl (Nat.le_of_ble_eq_true rfl) ⟨⟨Nat.le_of_ble_eq_true rfl, Nat.le_of_ble_eq_true rfl⟩, Nat.le_of_ble_eq_true rfl, Nat.le_of_ble_eq_true rfl⟩ ?_
  refine q_if_ne 9 dX8_back_4 (by decide) (fun _ => ?_) (fun z => absurd z (by rw [isIm_nI hj]; decide))
  refine q_aload_n dX8_back_9 rfl rfl ?_
  refine q_get dX8_back_10 fX8_back_57 (hX) rfl ?_
  refine q_iload_n dX8_back_13 rfl rfl ?_
  refine q_aald dX8_back_14 (hI) (in_nI hj (by omega)) ?_
  rw [nI_clamp (by omega), hgj]
  refine q_astore_n dX8_back_15 rfl (by decide) ?_
  refine q_aload_n dX8_back_16 rfl rfl ?_
  refine q_get dX8_back_17 fX8_back_105 (hij) rfl ?_
  refine q_if_ne 26 dX8_back_20 (by decide) (fun z => absurd (rfl) z) (fun _ => ?_)
  refine q_bipush (v := (-2)) dX8_back_23 rfl ?_
  exact q_iret dX8_back_25 rfl (Nat.zero_le _) (Nat.zero_le _) (⟨rfl, rfl, rfl⟩)
theorem c_back {j ij ip ir : Nat} {gi : Nat → Option Nat} {g : Nat → Int32} {l0 y0 : Int32} (hj : j < 2) (hgj : gi j = some ij) (hX : hat as h X (xo T P S U M D L I tw dr lot yr tc)) (hI : hat as h I (aO Γ 2 gi)) (hij : hat as h ij (ob 1 [.ref ip, .int l0, .int y0, .int 1])) (hip : hat as h ip (ob 4 [.ref ir])) (hir : hat as h ir (aI Γ 80 g)) (hP : hat as h P (ob 4 [.ref pr])) (hpr : hat as h pr (aI Γ 80 f)) : Det Γ l mX8_back rX8_back [.ref X, .int (nI j)] as h (some (.int (pAll (va_cpy g f 0 0 80)))) (hset (hset h pr (aI Γ 80 (va_cpy g f 0 0 80))) X (xo T P S U M D L I tw dr l0 y0 tc)) := by
  have e1 := hat_oa hX hpr
  have e2 := hat_oo hX hij (by decide)
  have e3 := hat_oa hij hpr
  have e4 := hat_oo hP hX (by decide)
  have e5 := hat_oa hP hpr
  refine Con.of (by decide +kernel) rfl rfl (Nat.le_of_ble_eq_true rfl) ?_
  refine q_iload_n dX8_back_0 rfl rfl ?_
  refine q_callSd dX8_back_1 wX8_back_285 (c_isImage) rfl rfl (Nat.le_of_ble_eq_true rfl) ⟨⟨Nat.le_of_ble_eq_true rfl, Nat.le_of_ble_eq_true rfl⟩, Nat.le_of_ble_eq_true rfl, Nat.le_of_ble_eq_true rfl⟩ ?_
  refine q_if_ne 9 dX8_back_4 (by decide) (fun _ => ?_) (fun z => absurd z (by rw [isIm_nI hj]; decide))
  refine q_aload_n dX8_back_9 rfl rfl ?_
  refine q_get dX8_back_10 fX8_back_57 (hX) rfl ?_
  refine q_iload_n dX8_back_13 rfl rfl ?_
  refine q_aald dX8_back_14 (hI) (in_nI hj (by omega)) ?_
  rw [nI_clamp (by omega), hgj]
  refine q_astore_n dX8_back_15 rfl (by decide) ?_
  refine q_aload_n dX8_back_16 rfl rfl ?_
  refine q_get dX8_back_17 fX8_back_105 (hij) rfl ?_
  refine q_if_ne 26 dX8_back_20 (by decide) (fun _ => ?_) (fun z => absurd z ((by decide)))
  refine q_aload_n dX8_back_26 rfl rfl ?_
  refine q_get dX8_back_27 fX8_back_19 (hX) rfl ?_
  refine q_aload_n dX8_back_30 rfl rfl ?_
  refine q_get dX8_back_31 fX8_back_288 (hij) rfl ?_
  refine q_callVd dX8_back_34 wX8_back_234 (c_copyFrom hP hpr hip hir) (hP) ⟨_, _, rfl⟩ rfl rfl (Nat.le_of_ble_eq_true rfl) ⟨⟨Nat.le_of_ble_eq_true rfl, Nat.le_of_ble_eq_true rfl⟩, Nat.le_of_ble_eq_true rfl, Nat.le_of_ble_eq_true rfl⟩ ?_
  refine q_aload_n dX8_back_37 rfl rfl ?_
  refine q_aload_n dX8_back_38 rfl rfl ?_
  refine q_get dX8_back_39 fX8_back_289 (hat_ne hij e3) rfl ?_
  refine q_put dX8_back_42 pX8_back_71 (hat_ne hX e1) rfl rfl (Nat.le_of_ble_eq_true rfl) ?_
  refine q_aload_n dX8_back_45 rfl rfl ?_
  refine q_aload_n dX8_back_46 rfl rfl ?_
  refine q_get dX8_back_47 fX8_back_290 (hat_ne (hat_ne hij e3) e2.symm) rfl ?_
  refine q_put dX8_back_50 pX8_back_75 (hat_set (hat_ne hX e1)) rfl rfl (Nat.le_of_ble_eq_true rfl) ?_
  refine V.hp (h' := hset (hset h pr (aI Γ 80 (va_cpy g f 0 0 80))) X (xo T P S U M D L I tw dr l0 y0 tc)) ?_ (by rw [hset_hset]; rfl)
  refine q_aload_n dX8_back_53 rfl rfl ?_
  refine q_get dX8_back_54 fX8_back_19 (hat_set (hat_ne hX e1)) rfl ?_
  refine q_callVd dX8_back_57 wX8_back_225 (c_allCoins (hat_ne (hat_ne hP e5) e4) (hat_ne (hat_set hpr) e1.symm)) (hat_ne (hat_ne hP e5) e4) ⟨_, _, rfl⟩ rfl rfl (Nat.le_of_ble_eq_true rfl) ⟨⟨Nat.le_of_ble_eq_true rfl, Nat.le_of_ble_eq_true rfl⟩, Nat.le_of_ble_eq_true rfl, Nat.le_of_ble_eq_true rfl⟩ ?_
  exact q_iret dX8_back_60 rfl (Nat.zero_le _) (Nat.zero_le _) (⟨rfl, rfl, rfl⟩)
def cntX (n : Nat) (all yr len num gr : Int32) : Nat → Int32
  | 0 => nI n
  | 1 => all
  | 2 => yr
  | 3 => len
  | 4 => num
  | _ => gr
theorem c_count_bad {q : Int32} (hb : q.toInt < 0 ∨ 5 < q.toInt) : Det Γ l mX8_count rX8_count [.ref X, .int q] as h (some (.int (-1))) h := by
  refine Con.of (by decide +kernel) rfl rfl (Nat.le_of_ble_eq_true rfl) ?_
  refine q_iload_n dX8_count_0 rfl rfl ?_
  refine q_tableOut 85 dX8_count_1 (hb) (by decide) ?_
  refine q_iconst (v := (-1)) dX8_count_85 rfl ?_
  exact q_iret dX8_count_86 rfl (Nat.zero_le _) (Nat.zero_le _) (⟨rfl, rfl, rfl⟩)
theorem c_count {j b len a s kk v : Nat} (hj : j < 6) (hX : hat as h X (xo T P S U M D L I tw dr lot yr tc)) (ht : hat as h tw (twn aw ax ay ao n)) (hP : hat as h P (ob 4 [.ref pr])) (hpr : hat as h pr (aI Γ 80 f)) (hT : hat as h T (tq b len a s kk v)) (hM : hat as h M (ob 3 [.int x0, .int x1, .int x2, .int x3, .int x4])) : Det Γ l mX8_count rX8_count [.ref X, .int (nI j)] as h (some (.int (cntX n (pAll f) yr (nI len) x4 (pGr f) j))) h := by
  refine Con.of (by decide +kernel) rfl rfl (Nat.le_of_ble_eq_true rfl) ?_
  rcases (show j = 0 ∨ j = 1 ∨ j = 2 ∨ j = 3 ∨ j = 4 ∨ j = 5 by omega) with rfl | rfl | rfl | rfl | rfl | rfl
  · skip
    refine q_iload_n dX8_count_0 rfl rfl ?_
    refine q_tableIn 40 dX8_count_1 (by decide) (by decide) rfl (by decide) ?_
    refine q_aload_n dX8_count_40 rfl rfl ?_
    refine q_get dX8_count_41 fX8_count_64 (hX) rfl ?_
    refine q_get dX8_count_44 fX8_count_109 (ht) rfl ?_
    exact q_iret dX8_count_47 rfl (Nat.zero_le _) (Nat.zero_le _) (⟨rfl, rfl, rfl⟩)
  · skip
    refine q_iload_n dX8_count_0 rfl rfl ?_
    refine q_tableIn 48 dX8_count_1 (by decide) (by decide) rfl (by decide) ?_
    refine q_aload_n dX8_count_48 rfl rfl ?_
    refine q_get dX8_count_49 fX8_count_19 (hX) rfl ?_
    refine q_callVd dX8_count_52 wX8_count_225 (c_allCoins hP hpr) (hP) ⟨_, _, rfl⟩ rfl rfl (Nat.le_of_ble_eq_true rfl) ⟨⟨Nat.le_of_ble_eq_true rfl, Nat.le_of_ble_eq_true rfl⟩, Nat.le_of_ble_eq_true rfl, Nat.le_of_ble_eq_true rfl⟩ ?_
    exact q_iret dX8_count_55 rfl (Nat.zero_le _) (Nat.zero_le _) (⟨rfl, rfl, rfl⟩)
  · skip
    refine q_iload_n dX8_count_0 rfl rfl ?_
    refine q_tableIn 56 dX8_count_1 (by decide) (by decide) rfl (by decide) ?_
    refine q_aload_n dX8_count_56 rfl rfl ?_
    refine q_get dX8_count_57 fX8_count_75 (hX) rfl ?_
    exact q_iret dX8_count_60 rfl (Nat.zero_le _) (Nat.zero_le _) (⟨rfl, rfl, rfl⟩)
  · skip
    refine q_iload_n dX8_count_0 rfl rfl ?_
    refine q_tableIn 61 dX8_count_1 (by decide) (by decide) rfl (by decide) ?_
    refine q_aload_n dX8_count_61 rfl rfl ?_
    refine q_get dX8_count_62 fX8_count_10 (hX) rfl ?_
    refine q_get dX8_count_65 fX8_count_92 (hT) rfl ?_
    exact q_iret dX8_count_68 rfl (Nat.zero_le _) (Nat.zero_le _) (⟨rfl, rfl, rfl⟩)
  · skip
    refine q_iload_n dX8_count_0 rfl rfl ?_
    refine q_tableIn 69 dX8_count_1 (by decide) (by decide) rfl (by decide) ?_
    refine q_aload_n dX8_count_69 rfl rfl ?_
    refine q_get dX8_count_70 fX8_count_36 (hX) rfl ?_
    refine q_get dX8_count_73 fX8_count_291 (hM) rfl ?_
    exact q_iret dX8_count_76 rfl (Nat.zero_le _) (Nat.zero_le _) (⟨rfl, rfl, rfl⟩)
  · skip
    refine q_iload_n dX8_count_0 rfl rfl ?_
    refine q_tableIn 77 dX8_count_1 (by decide) (by decide) rfl (by decide) ?_
    refine q_aload_n dX8_count_77 rfl rfl ?_
    refine q_get dX8_count_78 fX8_count_19 (hX) rfl ?_
    refine q_callVd dX8_count_81 wX8_count_228 (c_allGrains hP hpr) (hP) ⟨_, _, rfl⟩ rfl rfl (Nat.le_of_ble_eq_true rfl) ⟨⟨Nat.le_of_ble_eq_true rfl, Nat.le_of_ble_eq_true rfl⟩, Nat.le_of_ble_eq_true rfl, Nat.le_of_ble_eq_true rfl⟩ ?_
    exact q_iret dX8_count_84 rfl (Nat.zero_le _) (Nat.zero_le _) (⟨rfl, rfl, rfl⟩)
theorem c_trace (hX : hat as h X (xo T P S U M D L I tw dr lot yr tc)) : Det Γ l mX8_trace rX8_trace [.ref X] as h (some (.long tc)) h := by
  refine Con.of (by decide +kernel) rfl rfl (Nat.le_of_ble_eq_true rfl) ?_
  refine q_aload_n dX8_trace_0 rfl rfl ?_
  refine q_get dX8_trace_1 fX8_trace_78 (hX) rfl ?_
  exact q_lret dX8_trace_4 rfl (Nat.zero_le _) (Nat.zero_le _) (⟨rfl, rfl, rfl⟩)
end

