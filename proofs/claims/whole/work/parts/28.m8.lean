/-! THE REFERENCE (X9): wear, years, laws, images, labour -/
abbrev mX9_keep : mT := (yX9_keep, RX9, cX9_keep, 2, (some .int), wsX9_keep)
abbrev rX9_keep : Room := { frames := 2, cells := 0, slots := 0, locals := 45 }
theorem dX9_keep_0 : decode cX9_keep 0 = .ok (.iload_n 1, 1) := by decide +kernel
theorem dX9_keep_1 : decode cX9_keep 1 = .ok (.i2l, 1) := by decide +kernel
theorem dX9_keep_2 : decode cX9_keep 2 = .ok (.lconst 0, 1) := by decide +kernel
theorem dX9_keep_3 : decode cX9_keep 3 = .ok (.lconst 1, 1) := by decide +kernel
theorem dX9_keep_4 : decode cX9_keep 4 = .ok (.invokestatic 60, 3) := by decide +kernel
theorem dX9_keep_7 : decode cX9_keep 7 = .ok (.ifCond .ne 5, 3) := by decide +kernel
theorem dX9_keep_10 : decode cX9_keep 10 = .ok (.iconst (-1), 1) := by decide +kernel
theorem dX9_keep_11 : decode cX9_keep 11 = .ok (.ireturn, 1) := by decide +kernel
theorem dX9_keep_12 : decode cX9_keep 12 = .ok (.aload_n 0, 1) := by decide +kernel
theorem dX9_keep_13 : decode cX9_keep 13 = .ok (.iconst 0, 1) := by decide +kernel
theorem dX9_keep_14 : decode cX9_keep 14 = .ok (.iconst 1, 1) := by decide +kernel
theorem dX9_keep_15 : decode cX9_keep 15 = .ok (.iload_n 1, 1) := by decide +kernel
theorem dX9_keep_16 : decode cX9_keep 16 = .ok (.iadd, 1) := by decide +kernel
theorem dX9_keep_17 : decode cX9_keep 17 = .ok (.invokevirtual 246, 3) := by decide +kernel
theorem dX9_keep_20 : decode cX9_keep 20 = .ok (.aload_n 0, 1) := by decide +kernel
theorem dX9_keep_21 : decode cX9_keep 21 = .ok (.getfield 35, 3) := by decide +kernel
theorem dX9_keep_24 : decode cX9_keep 24 = .ok (.iload_n 1, 1) := by decide +kernel
theorem dX9_keep_25 : decode cX9_keep 25 = .ok (.iconst 1, 1) := by decide +kernel
theorem dX9_keep_26 : decode cX9_keep 26 = .ok (.bastore, 1) := by decide +kernel
theorem dX9_keep_27 : decode cX9_keep 27 = .ok (.aload_n 0, 1) := by decide +kernel
theorem dX9_keep_28 : decode cX9_keep 28 = .ok (.invokevirtual 164, 3) := by decide +kernel
theorem dX9_keep_31 : decode cX9_keep 31 = .ok (.ireturn, 1) := by decide +kernel
theorem iX9_keep_9 : ∀ w ∈ wsX90, w ∈ wsX9_keep := fun w h => List.mem_cons_of_mem _ (List.mem_append_right _ h)
theorem fX9_keep_35 : FL mX9_keep 35 9 16 := ⟨_, _, _, rfl, by decide, iX9_keep_9, by decide +kernel⟩
set_option maxRecDepth 20000 in
theorem ggX9_keep_X9_in : GoodIn wsX9_keep wsX9_in := goodIn_r _ [5] (by decide +kernel) (by decide +kernel)
set_option maxRecDepth 20000 in
theorem gX9_keep_X9_in : GoodIn wsX9_keep (va_wsS RX9 60 yX9_in wsX9_in) := goodIn_app (goodIn_of _ (by decide +kernel)) ggX9_keep_X9_in
theorem wX9_keep_60 : CWS mX9_keep 60 mX9_in 3 := ⟨gX9_keep_X9_in, ⟨_, rfl⟩, by decide +kernel, by decide +kernel, by decide +kernel⟩
set_option maxRecDepth 20000 in
theorem ggX9_keep_X9_allCoins : GoodIn wsX9_keep wsX9_allCoins := goodIn_r _ [16, 17, 18, 19, 4, 20, 21, 10, 22, 23, 24, 25, 26, 27, 28, 29, 30, 31, 32, 33, 34, 35, 36, 37, 38, 39, 40, 41, 42, 43, 44, 45, 46] (by decide +kernel) (by decide +kernel)
set_option maxRecDepth 20000 in
theorem gX9_keep_X9_allCoins : GoodIn wsX9_keep (wsV RX9 164 RX9 yX9_allCoins wsX9_allCoins) := goodIn_app (goodIn_of _ (by decide +kernel)) ggX9_keep_X9_allCoins
theorem wX9_keep_164 : CWV mX9_keep 164 mX9_allCoins 0 := ⟨gX9_keep_X9_allCoins, ⟨_, rfl⟩, rfl, by decide +kernel, by decide +kernel, by decide +kernel⟩
set_option maxRecDepth 20000 in
theorem ggX9_keep_X9_copy : GoodIn wsX9_keep wsX9_copy := goodIn_r _ [9, 10, 11, 12, 22, 23, 24, 25, 26, 27, 28, 29, 30, 31, 32, 33, 34, 35, 36, 37, 38, 39, 40, 41, 42, 43, 44, 45, 46] (by decide +kernel) (by decide +kernel)
set_option maxRecDepth 20000 in
theorem gX9_keep_X9_copy : GoodIn wsX9_keep (wsV RX9 246 RX9 yX9_copy wsX9_copy) := goodIn_app (goodIn_of _ (by decide +kernel)) ggX9_keep_X9_copy
theorem wX9_keep_246 : CWV mX9_keep 246 mX9_copy 2 := ⟨gX9_keep_X9_copy, ⟨_, rfl⟩, rfl, by decide +kernel, by decide +kernel, by decide +kernel⟩
abbrev mX9_back : mT := (yX9_back, RX9, cX9_back, 2, (some .int), wsX9_back)
abbrev rX9_back : Room := { frames := 2, cells := 0, slots := 0, locals := 45 }
theorem dX9_back_0 : decode cX9_back 0 = .ok (.iload_n 1, 1) := by decide +kernel
theorem dX9_back_1 : decode cX9_back 1 = .ok (.i2l, 1) := by decide +kernel
theorem dX9_back_2 : decode cX9_back 2 = .ok (.lconst 0, 1) := by decide +kernel
theorem dX9_back_3 : decode cX9_back 3 = .ok (.lconst 1, 1) := by decide +kernel
theorem dX9_back_4 : decode cX9_back 4 = .ok (.invokestatic 60, 3) := by decide +kernel
theorem dX9_back_7 : decode cX9_back 7 = .ok (.ifCond .ne 5, 3) := by decide +kernel
theorem dX9_back_10 : decode cX9_back 10 = .ok (.iconst (-1), 1) := by decide +kernel
theorem dX9_back_11 : decode cX9_back 11 = .ok (.ireturn, 1) := by decide +kernel
theorem dX9_back_12 : decode cX9_back 12 = .ok (.aload_n 0, 1) := by decide +kernel
theorem dX9_back_13 : decode cX9_back 13 = .ok (.getfield 35, 3) := by decide +kernel
theorem dX9_back_16 : decode cX9_back 16 = .ok (.iload_n 1, 1) := by decide +kernel
theorem dX9_back_17 : decode cX9_back 17 = .ok (.baload, 1) := by decide +kernel
theorem dX9_back_18 : decode cX9_back 18 = .ok (.ifCond .ne 6, 3) := by decide +kernel
theorem dX9_back_21 : decode cX9_back 21 = .ok (.bipush (-2), 2) := by decide +kernel
theorem dX9_back_23 : decode cX9_back 23 = .ok (.ireturn, 1) := by decide +kernel
theorem dX9_back_24 : decode cX9_back 24 = .ok (.aload_n 0, 1) := by decide +kernel
theorem dX9_back_25 : decode cX9_back 25 = .ok (.iconst 1, 1) := by decide +kernel
theorem dX9_back_26 : decode cX9_back 26 = .ok (.iload_n 1, 1) := by decide +kernel
theorem dX9_back_27 : decode cX9_back 27 = .ok (.iadd, 1) := by decide +kernel
theorem dX9_back_28 : decode cX9_back 28 = .ok (.iconst 0, 1) := by decide +kernel
theorem dX9_back_29 : decode cX9_back 29 = .ok (.invokevirtual 246, 3) := by decide +kernel
theorem dX9_back_32 : decode cX9_back 32 = .ok (.aload_n 0, 1) := by decide +kernel
theorem dX9_back_33 : decode cX9_back 33 = .ok (.invokevirtual 164, 3) := by decide +kernel
theorem dX9_back_36 : decode cX9_back 36 = .ok (.ireturn, 1) := by decide +kernel
theorem iX9_back_9 : ∀ w ∈ wsX90, w ∈ wsX9_back := fun w h => List.mem_cons_of_mem _ (List.mem_append_right _ h)
theorem fX9_back_35 : FL mX9_back 35 9 16 := ⟨_, _, _, rfl, by decide, iX9_back_9, by decide +kernel⟩
set_option maxRecDepth 20000 in
theorem ggX9_back_X9_in : GoodIn wsX9_back wsX9_in := goodIn_r _ [5] (by decide +kernel) (by decide +kernel)
set_option maxRecDepth 20000 in
theorem gX9_back_X9_in : GoodIn wsX9_back (va_wsS RX9 60 yX9_in wsX9_in) := goodIn_app (goodIn_of _ (by decide +kernel)) ggX9_back_X9_in
theorem wX9_back_60 : CWS mX9_back 60 mX9_in 3 := ⟨gX9_back_X9_in, ⟨_, rfl⟩, by decide +kernel, by decide +kernel, by decide +kernel⟩
set_option maxRecDepth 20000 in
theorem ggX9_back_X9_allCoins : GoodIn wsX9_back wsX9_allCoins := goodIn_r _ [16, 17, 18, 19, 4, 20, 21, 10, 22, 23, 24, 25, 26, 27, 28, 29, 30, 31, 32, 33, 34, 35, 36, 37, 38, 39, 40, 41, 42, 43, 44, 45, 46] (by decide +kernel) (by decide +kernel)
set_option maxRecDepth 20000 in
theorem gX9_back_X9_allCoins : GoodIn wsX9_back (wsV RX9 164 RX9 yX9_allCoins wsX9_allCoins) := goodIn_app (goodIn_of _ (by decide +kernel)) ggX9_back_X9_allCoins
theorem wX9_back_164 : CWV mX9_back 164 mX9_allCoins 0 := ⟨gX9_back_X9_allCoins, ⟨_, rfl⟩, rfl, by decide +kernel, by decide +kernel, by decide +kernel⟩
set_option maxRecDepth 20000 in
theorem ggX9_back_X9_copy : GoodIn wsX9_back wsX9_copy := goodIn_r _ [9, 10, 11, 12, 22, 23, 24, 25, 26, 27, 28, 29, 30, 31, 32, 33, 34, 35, 36, 37, 38, 39, 40, 41, 42, 43, 44, 45, 46] (by decide +kernel) (by decide +kernel)
set_option maxRecDepth 20000 in
theorem gX9_back_X9_copy : GoodIn wsX9_back (wsV RX9 246 RX9 yX9_copy wsX9_copy) := goodIn_app (goodIn_of _ (by decide +kernel)) ggX9_back_X9_copy
theorem wX9_back_246 : CWV mX9_back 246 mX9_copy 2 := ⟨gX9_back_X9_copy, ⟨_, rfl⟩, rfl, by decide +kernel, by decide +kernel, by decide +kernel⟩
abbrev mX9_count : mT := (yX9_count, RX9, cX9_count, 2, (some .int), wsX9_count)
abbrev rX9_count : Room := { frames := 2, cells := 0, slots := 0, locals := 45 }
theorem dX9_count_0 : decode cX9_count 0 = .ok (.iload_n 1, 1) := by decide +kernel
theorem dX9_count_1 : decode cX9_count 1 = .ok (.tableswitch 71 0 5 #[39, 44, 49, 56, 61, 66], 39) := by decide +kernel
theorem dX9_count_40 : decode cX9_count 40 = .ok (.aload_n 0, 1) := by decide +kernel
theorem dX9_count_41 : decode cX9_count 41 = .ok (.getfield 111, 3) := by decide +kernel
theorem dX9_count_44 : decode cX9_count 44 = .ok (.ireturn, 1) := by decide +kernel
theorem dX9_count_45 : decode cX9_count 45 = .ok (.aload_n 0, 1) := by decide +kernel
theorem dX9_count_46 : decode cX9_count 46 = .ok (.invokevirtual 164, 3) := by decide +kernel
theorem dX9_count_49 : decode cX9_count 49 = .ok (.ireturn, 1) := by decide +kernel
theorem dX9_count_50 : decode cX9_count 50 = .ok (.aload_n 0, 1) := by decide +kernel
theorem dX9_count_51 : decode cX9_count 51 = .ok (.getfield 32, 3) := by decide +kernel
theorem dX9_count_54 : decode cX9_count 54 = .ok (.iconst 0, 1) := by decide +kernel
theorem dX9_count_55 : decode cX9_count 55 = .ok (.iaload, 1) := by decide +kernel
theorem dX9_count_56 : decode cX9_count 56 = .ok (.ireturn, 1) := by decide +kernel
theorem dX9_count_57 : decode cX9_count 57 = .ok (.aload_n 0, 1) := by decide +kernel
theorem dX9_count_58 : decode cX9_count 58 = .ok (.getfield 64, 3) := by decide +kernel
theorem dX9_count_61 : decode cX9_count 61 = .ok (.ireturn, 1) := by decide +kernel
theorem dX9_count_62 : decode cX9_count 62 = .ok (.aload_n 0, 1) := by decide +kernel
theorem dX9_count_63 : decode cX9_count 63 = .ok (.getfield 114, 3) := by decide +kernel
theorem dX9_count_66 : decode cX9_count 66 = .ok (.ireturn, 1) := by decide +kernel
theorem dX9_count_67 : decode cX9_count 67 = .ok (.aload_n 0, 1) := by decide +kernel
theorem dX9_count_68 : decode cX9_count 68 = .ok (.invokevirtual 205, 3) := by decide +kernel
theorem dX9_count_71 : decode cX9_count 71 = .ok (.ireturn, 1) := by decide +kernel
theorem dX9_count_72 : decode cX9_count 72 = .ok (.iconst (-1), 1) := by decide +kernel
theorem dX9_count_73 : decode cX9_count 73 = .ok (.ireturn, 1) := by decide +kernel
theorem iX9_count_9 : ∀ w ∈ wsX90, w ∈ wsX9_count := fun w h => List.mem_cons_of_mem _ (List.mem_append_right _ h)
theorem fX9_count_32 : FL mX9_count 32 9 15 := ⟨_, _, _, rfl, by decide, iX9_count_9, by decide +kernel⟩
theorem fX9_count_64 : FL mX9_count 64 9 2 := ⟨_, _, _, rfl, by decide, iX9_count_9, by decide +kernel⟩
theorem fX9_count_111 : FL mX9_count 111 9 3 := ⟨_, _, _, rfl, by decide, iX9_count_9, by decide +kernel⟩
theorem fX9_count_114 : FL mX9_count 114 9 19 := ⟨_, _, _, rfl, by decide, iX9_count_9, by decide +kernel⟩
set_option maxRecDepth 20000 in
theorem ggX9_count_X9_allCoins : GoodIn wsX9_count wsX9_allCoins := goodIn_r _ [9, 10, 11, 12, 8, 13, 1, 14, 19, 20, 21, 22, 23, 24, 25, 26, 27, 28, 29, 30, 31, 32, 33, 34, 35, 36, 37, 38, 39, 40, 41, 42, 43] (by decide +kernel) (by decide +kernel)
set_option maxRecDepth 20000 in
theorem gX9_count_X9_allCoins : GoodIn wsX9_count (wsV RX9 164 RX9 yX9_allCoins wsX9_allCoins) := goodIn_app (goodIn_of _ (by decide +kernel)) ggX9_count_X9_allCoins
theorem wX9_count_164 : CWV mX9_count 164 mX9_allCoins 0 := ⟨gX9_count_X9_allCoins, ⟨_, rfl⟩, rfl, by decide +kernel, by decide +kernel, by decide +kernel⟩
set_option maxRecDepth 20000 in
theorem ggX9_count_X9_there : GoodIn wsX9_count wsX9_there := goodIn_r _ [18, 10, 11, 12, 8, 13, 1, 14, 19, 20, 21, 22, 23, 24, 25, 26, 27, 28, 29, 30, 31, 32, 33, 34, 35, 36, 37, 38, 39, 40, 41, 42, 43] (by decide +kernel) (by decide +kernel)
set_option maxRecDepth 20000 in
theorem gX9_count_X9_there : GoodIn wsX9_count (wsV RX9 205 RX9 yX9_there wsX9_there) := goodIn_app (goodIn_of _ (by decide +kernel)) ggX9_count_X9_there
theorem wX9_count_205 : CWV mX9_count 205 mX9_there 0 := ⟨gX9_count_X9_there, ⟨_, rfl⟩, rfl, by decide +kernel, by decide +kernel, by decide +kernel⟩
abbrev mX9_labour : mT := (yX9_labour, RX9, cX9_labour, 7, (some .int), wsX9_labour)
abbrev rX9_labour : Room := { frames := 2, cells := 0, slots := 0, locals := 46 }
theorem dX9_labour_0 : decode cX9_labour 0 = .ok (.iload_n 1, 1) := by decide +kernel
theorem dX9_labour_1 : decode cX9_labour 1 = .ok (.i2l, 1) := by decide +kernel
theorem dX9_labour_2 : decode cX9_labour 2 = .ok (.lconst 0, 1) := by decide +kernel
theorem dX9_labour_3 : decode cX9_labour 3 = .ok (.ldc2_w 228, 3) := by decide +kernel
theorem dX9_labour_6 : decode cX9_labour 6 = .ok (.invokestatic 60, 3) := by decide +kernel
theorem dX9_labour_9 : decode cX9_labour 9 = .ok (.ifCond .eq 11, 3) := by decide +kernel
theorem dX9_labour_12 : decode cX9_labour 12 = .ok (.aload_n 0, 1) := by decide +kernel
theorem dX9_labour_13 : decode cX9_labour 13 = .ok (.iload_n 2, 1) := by decide +kernel
theorem dX9_labour_14 : decode cX9_labour 14 = .ok (.invokevirtual 117, 3) := by decide +kernel
theorem dX9_labour_17 : decode cX9_labour 17 = .ok (.ifCond .ne 5, 3) := by decide +kernel
theorem dX9_labour_20 : decode cX9_labour 20 = .ok (.iconst (-1), 1) := by decide +kernel
theorem dX9_labour_21 : decode cX9_labour 21 = .ok (.ireturn, 1) := by decide +kernel
theorem dX9_labour_22 : decode cX9_labour 22 = .ok (.aload_n 0, 1) := by decide +kernel
theorem dX9_labour_23 : decode cX9_labour 23 = .ok (.iload_n 2, 1) := by decide +kernel
theorem dX9_labour_24 : decode cX9_labour 24 = .ok (.invokevirtual 121, 3) := by decide +kernel
theorem dX9_labour_27 : decode cX9_labour 27 = .ok (.istore_n 3, 1) := by decide +kernel
theorem dX9_labour_28 : decode cX9_labour 28 = .ok (.iconst 0, 1) := by decide +kernel
theorem dX9_labour_29 : decode cX9_labour 29 = .ok (.istore 4, 2) := by decide +kernel
theorem dX9_labour_31 : decode cX9_labour 31 = .ok (.aload_n 0, 1) := by decide +kernel
theorem dX9_labour_32 : decode cX9_labour 32 = .ok (.getfield 39, 3) := by decide +kernel
theorem dX9_labour_35 : decode cX9_labour 35 = .ok (.iconst 0, 1) := by decide +kernel
theorem dX9_labour_36 : decode cX9_labour 36 = .ok (.iaload, 1) := by decide +kernel
theorem dX9_labour_37 : decode cX9_labour 37 = .ok (.iconst 1, 1) := by decide +kernel
theorem dX9_labour_38 : decode cX9_labour 38 = .ok (.iadd, 1) := by decide +kernel
theorem dX9_labour_39 : decode cX9_labour 39 = .ok (.istore 5, 2) := by decide +kernel
theorem dX9_labour_41 : decode cX9_labour 41 = .ok (.iload 5, 2) := by decide +kernel
theorem dX9_labour_43 : decode cX9_labour 43 = .ok (.bipush 10, 2) := by decide +kernel
theorem dX9_labour_45 : decode cX9_labour 45 = .ok (.if_icmp .ge 26, 3) := by decide +kernel
theorem dX9_labour_48 : decode cX9_labour 48 = .ok (.iload 4, 2) := by decide +kernel
theorem dX9_labour_50 : decode cX9_labour 50 = .ok (.aload_n 0, 1) := by decide +kernel
theorem dX9_labour_51 : decode cX9_labour 51 = .ok (.getfield 26, 3) := by decide +kernel
theorem dX9_labour_54 : decode cX9_labour 54 = .ok (.bipush 10, 2) := by decide +kernel
theorem dX9_labour_56 : decode cX9_labour 56 = .ok (.iload_n 2, 1) := by decide +kernel
theorem dX9_labour_57 : decode cX9_labour 57 = .ok (.imul, 1) := by decide +kernel
theorem dX9_labour_58 : decode cX9_labour 58 = .ok (.iload 5, 2) := by decide +kernel
theorem dX9_labour_60 : decode cX9_labour 60 = .ok (.iadd, 1) := by decide +kernel
theorem dX9_labour_61 : decode cX9_labour 61 = .ok (.iaload, 1) := by decide +kernel
theorem dX9_labour_62 : decode cX9_labour 62 = .ok (.iadd, 1) := by decide +kernel
theorem dX9_labour_63 : decode cX9_labour 63 = .ok (.istore 4, 2) := by decide +kernel
theorem dX9_labour_65 : decode cX9_labour 65 = .ok (.iinc 5 1, 3) := by decide +kernel
theorem dX9_labour_68 : decode cX9_labour 68 = .ok (.goto (-27), 3) := by decide +kernel
theorem dX9_labour_71 : decode cX9_labour 71 = .ok (.iload_n 3, 1) := by decide +kernel
theorem dX9_labour_72 : decode cX9_labour 72 = .ok (.aload_n 0, 1) := by decide +kernel
theorem dX9_labour_73 : decode cX9_labour 73 = .ok (.getfield 39, 3) := by decide +kernel
theorem dX9_labour_76 : decode cX9_labour 76 = .ok (.iconst 1, 1) := by decide +kernel
theorem dX9_labour_77 : decode cX9_labour 77 = .ok (.iaload, 1) := by decide +kernel
theorem dX9_labour_78 : decode cX9_labour 78 = .ok (.iload 4, 2) := by decide +kernel
theorem dX9_labour_80 : decode cX9_labour 80 = .ok (.imul, 1) := by decide +kernel
theorem dX9_labour_81 : decode cX9_labour 81 = .ok (.iadd, 1) := by decide +kernel
theorem dX9_labour_82 : decode cX9_labour 82 = .ok (.istore 5, 2) := by decide +kernel
theorem dX9_labour_84 : decode cX9_labour 84 = .ok (.iload_n 3, 1) := by decide +kernel
theorem dX9_labour_85 : decode cX9_labour 85 = .ok (.aload_n 0, 1) := by decide +kernel
theorem dX9_labour_86 : decode cX9_labour 86 = .ok (.getfield 26, 3) := by decide +kernel
theorem dX9_labour_89 : decode cX9_labour 89 = .ok (.bipush 10, 2) := by decide +kernel
theorem dX9_labour_91 : decode cX9_labour 91 = .ok (.iload_n 2, 1) := by decide +kernel
theorem dX9_labour_92 : decode cX9_labour 92 = .ok (.imul, 1) := by decide +kernel
theorem dX9_labour_93 : decode cX9_labour 93 = .ok (.iaload, 1) := by decide +kernel
theorem dX9_labour_94 : decode cX9_labour 94 = .ok (.isub, 1) := by decide +kernel
theorem dX9_labour_95 : decode cX9_labour 95 = .ok (.istore 6, 2) := by decide +kernel
theorem dX9_labour_97 : decode cX9_labour 97 = .ok (.iload_n 1, 1) := by decide +kernel
theorem dX9_labour_98 : decode cX9_labour 98 = .ok (.tableswitch 138 0 5 #[38, 50, 66, 81, 106, 121], 38) := by decide +kernel
theorem dX9_labour_136 : decode cX9_labour 136 = .ok (.aload_n 0, 1) := by decide +kernel
theorem dX9_labour_137 : decode cX9_labour 137 = .ok (.dup, 1) := by decide +kernel
theorem dX9_labour_138 : decode cX9_labour 138 = .ok (.getfield 230, 3) := by decide +kernel
theorem dX9_labour_141 : decode cX9_labour 141 = .ok (.lconst 1, 1) := by decide +kernel
theorem dX9_labour_142 : decode cX9_labour 142 = .ok (.ladd, 1) := by decide +kernel
theorem dX9_labour_143 : decode cX9_labour 143 = .ok (.putfield 230, 3) := by decide +kernel
theorem dX9_labour_146 : decode cX9_labour 146 = .ok (.iload_n 3, 1) := by decide +kernel
theorem dX9_labour_147 : decode cX9_labour 147 = .ok (.ireturn, 1) := by decide +kernel
theorem dX9_labour_148 : decode cX9_labour 148 = .ok (.aload_n 0, 1) := by decide +kernel
theorem dX9_labour_149 : decode cX9_labour 149 = .ok (.dup, 1) := by decide +kernel
theorem dX9_labour_150 : decode cX9_labour 150 = .ok (.getfield 230, 3) := by decide +kernel
theorem dX9_labour_153 : decode cX9_labour 153 = .ok (.ldc2_w 234, 3) := by decide +kernel
theorem dX9_labour_156 : decode cX9_labour 156 = .ok (.ladd, 1) := by decide +kernel
theorem dX9_labour_157 : decode cX9_labour 157 = .ok (.putfield 230, 3) := by decide +kernel
theorem dX9_labour_160 : decode cX9_labour 160 = .ok (.iload_n 3, 1) := by decide +kernel
theorem dX9_labour_161 : decode cX9_labour 161 = .ok (.iconst 1, 1) := by decide +kernel
theorem dX9_labour_162 : decode cX9_labour 162 = .ok (.iadd, 1) := by decide +kernel
theorem dX9_labour_163 : decode cX9_labour 163 = .ok (.ireturn, 1) := by decide +kernel
theorem dX9_labour_164 : decode cX9_labour 164 = .ok (.aload_n 0, 1) := by decide +kernel
theorem dX9_labour_165 : decode cX9_labour 165 = .ok (.dup, 1) := by decide +kernel
theorem dX9_labour_166 : decode cX9_labour 166 = .ok (.getfield 230, 3) := by decide +kernel
theorem dX9_labour_169 : decode cX9_labour 169 = .ok (.ldc2_w 236, 3) := by decide +kernel
theorem dX9_labour_172 : decode cX9_labour 172 = .ok (.ladd, 1) := by decide +kernel
theorem dX9_labour_173 : decode cX9_labour 173 = .ok (.putfield 230, 3) := by decide +kernel
theorem dX9_labour_176 : decode cX9_labour 176 = .ok (.iload 5, 2) := by decide +kernel
theorem dX9_labour_178 : decode cX9_labour 178 = .ok (.ireturn, 1) := by decide +kernel
theorem dX9_labour_179 : decode cX9_labour 179 = .ok (.aload_n 0, 1) := by decide +kernel
theorem dX9_labour_180 : decode cX9_labour 180 = .ok (.dup, 1) := by decide +kernel
theorem dX9_labour_181 : decode cX9_labour 181 = .ok (.getfield 230, 3) := by decide +kernel
theorem dX9_labour_184 : decode cX9_labour 184 = .ok (.ldc2_w 238, 3) := by decide +kernel
theorem dX9_labour_187 : decode cX9_labour 187 = .ok (.ladd, 1) := by decide +kernel
theorem dX9_labour_188 : decode cX9_labour 188 = .ok (.putfield 230, 3) := by decide +kernel
theorem dX9_labour_191 : decode cX9_labour 191 = .ok (.aload_n 0, 1) := by decide +kernel
theorem dX9_labour_192 : decode cX9_labour 192 = .ok (.getfield 17, 3) := by decide +kernel
theorem dX9_labour_195 : decode cX9_labour 195 = .ok (.iload_n 2, 1) := by decide +kernel
theorem dX9_labour_196 : decode cX9_labour 196 = .ok (.iaload, 1) := by decide +kernel
theorem dX9_labour_197 : decode cX9_labour 197 = .ok (.iload 5, 2) := by decide +kernel
theorem dX9_labour_199 : decode cX9_labour 199 = .ok (.imul, 1) := by decide +kernel
theorem dX9_labour_200 : decode cX9_labour 200 = .ok (.bipush 10, 2) := by decide +kernel
theorem dX9_labour_202 : decode cX9_labour 202 = .ok (.idiv, 1) := by decide +kernel
theorem dX9_labour_203 : decode cX9_labour 203 = .ok (.ireturn, 1) := by decide +kernel
theorem dX9_labour_204 : decode cX9_labour 204 = .ok (.aload_n 0, 1) := by decide +kernel
theorem dX9_labour_205 : decode cX9_labour 205 = .ok (.dup, 1) := by decide +kernel
theorem dX9_labour_206 : decode cX9_labour 206 = .ok (.getfield 230, 3) := by decide +kernel
theorem dX9_labour_209 : decode cX9_labour 209 = .ok (.ldc2_w 240, 3) := by decide +kernel
theorem dX9_labour_212 : decode cX9_labour 212 = .ok (.ladd, 1) := by decide +kernel
theorem dX9_labour_213 : decode cX9_labour 213 = .ok (.putfield 230, 3) := by decide +kernel
theorem dX9_labour_216 : decode cX9_labour 216 = .ok (.iload 6, 2) := by decide +kernel
theorem dX9_labour_218 : decode cX9_labour 218 = .ok (.ireturn, 1) := by decide +kernel
theorem dX9_labour_219 : decode cX9_labour 219 = .ok (.aload_n 0, 1) := by decide +kernel
theorem dX9_labour_220 : decode cX9_labour 220 = .ok (.dup, 1) := by decide +kernel
theorem dX9_labour_221 : decode cX9_labour 221 = .ok (.getfield 230, 3) := by decide +kernel
theorem dX9_labour_224 : decode cX9_labour 224 = .ok (.ldc2_w 242, 3) := by decide +kernel
theorem dX9_labour_227 : decode cX9_labour 227 = .ok (.ladd, 1) := by decide +kernel
theorem dX9_labour_228 : decode cX9_labour 228 = .ok (.putfield 230, 3) := by decide +kernel
theorem dX9_labour_231 : decode cX9_labour 231 = .ok (.iconst 2, 1) := by decide +kernel
theorem dX9_labour_232 : decode cX9_labour 232 = .ok (.iload 6, 2) := by decide +kernel
theorem dX9_labour_234 : decode cX9_labour 234 = .ok (.imul, 1) := by decide +kernel
theorem dX9_labour_235 : decode cX9_labour 235 = .ok (.ireturn, 1) := by decide +kernel
theorem dX9_labour_236 : decode cX9_labour 236 = .ok (.aload_n 0, 1) := by decide +kernel
theorem dX9_labour_237 : decode cX9_labour 237 = .ok (.dup, 1) := by decide +kernel
theorem dX9_labour_238 : decode cX9_labour 238 = .ok (.getfield 230, 3) := by decide +kernel
theorem dX9_labour_241 : decode cX9_labour 241 = .ok (.ldc2_w 244, 3) := by decide +kernel
theorem dX9_labour_244 : decode cX9_labour 244 = .ok (.ladd, 1) := by decide +kernel
theorem dX9_labour_245 : decode cX9_labour 245 = .ok (.putfield 230, 3) := by decide +kernel
theorem dX9_labour_248 : decode cX9_labour 248 = .ok (.iload_n 3, 1) := by decide +kernel
theorem dX9_labour_249 : decode cX9_labour 249 = .ok (.aload_n 0, 1) := by decide +kernel
theorem dX9_labour_250 : decode cX9_labour 250 = .ok (.getfield 23, 3) := by decide +kernel
theorem dX9_labour_253 : decode cX9_labour 253 = .ok (.iload_n 2, 1) := by decide +kernel
theorem dX9_labour_254 : decode cX9_labour 254 = .ok (.iaload, 1) := by decide +kernel
theorem dX9_labour_255 : decode cX9_labour 255 = .ok (.iadd, 1) := by decide +kernel
theorem dX9_labour_256 : decode cX9_labour 256 = .ok (.ireturn, 1) := by decide +kernel
theorem iX9_labour_9 : ∀ w ∈ wsX90, w ∈ wsX9_labour := fun w h => List.mem_cons_of_mem _ (List.mem_append_right _ h)
theorem fX9_labour_17 : FL mX9_labour 17 9 5 := ⟨_, _, _, rfl, by decide, iX9_labour_9, by decide +kernel⟩
theorem fX9_labour_23 : FL mX9_labour 23 9 7 := ⟨_, _, _, rfl, by decide, iX9_labour_9, by decide +kernel⟩
theorem fX9_labour_26 : FL mX9_labour 26 9 13 := ⟨_, _, _, rfl, by decide, iX9_labour_9, by decide +kernel⟩
theorem fX9_labour_39 : FL mX9_labour 39 9 17 := ⟨_, _, _, rfl, by decide, iX9_labour_9, by decide +kernel⟩
theorem fX9_labour_230 : FL mX9_labour 230 9 0 := ⟨_, _, _, rfl, by decide, iX9_labour_9, by decide +kernel⟩
theorem pX9_labour_230 : FP mX9_labour 230 9 0 .long false := ⟨_, _, _, tyX9, rfl, by decide, iX9_labour_9, by decide +kernel, tyX9_ok, nmX9, rfl, rfl, fun z => absurd z (by decide)⟩
set_option maxRecDepth 20000 in
theorem ggX9_labour_X9_in : GoodIn wsX9_labour wsX9_in := goodIn_r _ [16] (by decide +kernel) (by decide +kernel)
set_option maxRecDepth 20000 in
theorem gX9_labour_X9_in : GoodIn wsX9_labour (va_wsS RX9 60 yX9_in wsX9_in) := goodIn_app (goodIn_of _ (by decide +kernel)) ggX9_labour_X9_in
theorem wX9_labour_60 : CWS mX9_labour 60 mX9_in 3 := ⟨gX9_labour_X9_in, ⟨_, rfl⟩, by decide +kernel, by decide +kernel, by decide +kernel⟩
set_option maxRecDepth 20000 in
theorem ggX9_labour_X9_isPerson : GoodIn wsX9_labour wsX9_isPerson := goodIn_r _ [20, 21, 13, 14, 15, 16, 26, 27, 28, 29, 30, 31, 32, 33, 34, 35, 36, 37, 38, 39, 40, 41, 42, 43, 44, 45, 46, 47, 48, 49, 50] (by decide +kernel) (by decide +kernel)
set_option maxRecDepth 20000 in
theorem gX9_labour_X9_isPerson : GoodIn wsX9_labour (wsV RX9 117 RX9 yX9_isPerson wsX9_isPerson) := goodIn_app (goodIn_of _ (by decide +kernel)) ggX9_labour_X9_isPerson
theorem wX9_labour_117 : CWV mX9_labour 117 mX9_isPerson 1 := ⟨gX9_labour_X9_isPerson, ⟨_, rfl⟩, rfl, by decide +kernel, by decide +kernel, by decide +kernel⟩
set_option maxRecDepth 20000 in
theorem ggX9_labour_X9_coinsOf : GoodIn wsX9_labour wsX9_coinsOf := goodIn_r _ [25, 3, 26, 27, 28, 29, 30, 31, 32, 33, 34, 35, 36, 37, 38, 39, 40, 41, 42, 43, 44, 45, 46, 47, 48, 49, 50] (by decide +kernel) (by decide +kernel)
set_option maxRecDepth 20000 in
theorem gX9_labour_X9_coinsOf : GoodIn wsX9_labour (wsV RX9 121 RX9 yX9_coinsOf wsX9_coinsOf) := goodIn_app (goodIn_of _ (by decide +kernel)) ggX9_labour_X9_coinsOf
theorem wX9_labour_121 : CWV mX9_labour 121 mX9_coinsOf 1 := ⟨gX9_labour_X9_coinsOf, ⟨_, rfl⟩, rfl, by decide +kernel, by decide +kernel, by decide +kernel⟩
abbrev mX9_cheapest : mT := (yX9_cheapest, RX9, cX9_cheapest, 7, (some .int), wsX9_cheapest)
abbrev rX9_cheapest : Room := { frames := 1, cells := 0, slots := 0, locals := 25 }
theorem dX9_cheapest_0 : decode cX9_cheapest 0 = .ok (.iload_n 1, 1) := by decide +kernel
theorem dX9_cheapest_1 : decode cX9_cheapest 1 = .ok (.i2l, 1) := by decide +kernel
theorem dX9_cheapest_2 : decode cX9_cheapest 2 = .ok (.lconst 0, 1) := by decide +kernel
theorem dX9_cheapest_3 : decode cX9_cheapest 3 = .ok (.ldc2_w 214, 3) := by decide +kernel
theorem dX9_cheapest_6 : decode cX9_cheapest 6 = .ok (.invokestatic 60, 3) := by decide +kernel
theorem dX9_cheapest_9 : decode cX9_cheapest 9 = .ok (.ifCond .eq 25, 3) := by decide +kernel
theorem dX9_cheapest_12 : decode cX9_cheapest 12 = .ok (.iload_n 2, 1) := by decide +kernel
theorem dX9_cheapest_13 : decode cX9_cheapest 13 = .ok (.i2l, 1) := by decide +kernel
theorem dX9_cheapest_14 : decode cX9_cheapest 14 = .ok (.lconst 0, 1) := by decide +kernel
theorem dX9_cheapest_15 : decode cX9_cheapest 15 = .ok (.ldc2_w 214, 3) := by decide +kernel
theorem dX9_cheapest_18 : decode cX9_cheapest 18 = .ok (.invokestatic 60, 3) := by decide +kernel
theorem dX9_cheapest_21 : decode cX9_cheapest 21 = .ok (.ifCond .eq 13, 3) := by decide +kernel
theorem dX9_cheapest_24 : decode cX9_cheapest 24 = .ok (.iload_n 3, 1) := by decide +kernel
theorem dX9_cheapest_25 : decode cX9_cheapest 25 = .ok (.i2l, 1) := by decide +kernel
theorem dX9_cheapest_26 : decode cX9_cheapest 26 = .ok (.lconst 0, 1) := by decide +kernel
theorem dX9_cheapest_27 : decode cX9_cheapest 27 = .ok (.lconst 1, 1) := by decide +kernel
theorem dX9_cheapest_28 : decode cX9_cheapest 28 = .ok (.invokestatic 60, 3) := by decide +kernel
theorem dX9_cheapest_31 : decode cX9_cheapest 31 = .ok (.ifCond .ne 5, 3) := by decide +kernel
theorem dX9_cheapest_34 : decode cX9_cheapest 34 = .ok (.iconst (-1), 1) := by decide +kernel
theorem dX9_cheapest_35 : decode cX9_cheapest 35 = .ok (.ireturn, 1) := by decide +kernel
theorem dX9_cheapest_36 : decode cX9_cheapest 36 = .ok (.bipush (-9), 2) := by decide +kernel
theorem dX9_cheapest_38 : decode cX9_cheapest 38 = .ok (.istore 4, 2) := by decide +kernel
theorem dX9_cheapest_40 : decode cX9_cheapest 40 = .ok (.iconst 0, 1) := by decide +kernel
theorem dX9_cheapest_41 : decode cX9_cheapest 41 = .ok (.istore 5, 2) := by decide +kernel
theorem dX9_cheapest_43 : decode cX9_cheapest 43 = .ok (.iload 5, 2) := by decide +kernel
theorem dX9_cheapest_45 : decode cX9_cheapest 45 = .ok (.sipush 512, 3) := by decide +kernel
theorem dX9_cheapest_48 : decode cX9_cheapest 48 = .ok (.if_icmp .ge 90, 3) := by decide +kernel
theorem dX9_cheapest_51 : decode cX9_cheapest 51 = .ok (.aload_n 0, 1) := by decide +kernel
theorem dX9_cheapest_52 : decode cX9_cheapest 52 = .ok (.getfield 39, 3) := by decide +kernel
theorem dX9_cheapest_55 : decode cX9_cheapest 55 = .ok (.iconst 1, 1) := by decide +kernel
theorem dX9_cheapest_56 : decode cX9_cheapest 56 = .ok (.iaload, 1) := by decide +kernel
theorem dX9_cheapest_57 : decode cX9_cheapest 57 = .ok (.aload_n 0, 1) := by decide +kernel
theorem dX9_cheapest_58 : decode cX9_cheapest 58 = .ok (.iload 5, 2) := by decide +kernel
theorem dX9_cheapest_60 : decode cX9_cheapest 60 = .ok (.iconst 1, 1) := by decide +kernel
theorem dX9_cheapest_61 : decode cX9_cheapest 61 = .ok (.invokevirtual 216, 3) := by decide +kernel
theorem dX9_cheapest_64 : decode cX9_cheapest 64 = .ok (.isub, 1) := by decide +kernel
theorem dX9_cheapest_65 : decode cX9_cheapest 65 = .ok (.iload_n 1, 1) := by decide +kernel
theorem dX9_cheapest_66 : decode cX9_cheapest 66 = .ok (.if_icmp .gt 25, 3) := by decide +kernel
theorem dX9_cheapest_69 : decode cX9_cheapest 69 = .ok (.aload_n 0, 1) := by decide +kernel
theorem dX9_cheapest_70 : decode cX9_cheapest 70 = .ok (.getfield 39, 3) := by decide +kernel
theorem dX9_cheapest_73 : decode cX9_cheapest 73 = .ok (.iconst 2, 1) := by decide +kernel
theorem dX9_cheapest_74 : decode cX9_cheapest 74 = .ok (.iaload, 1) := by decide +kernel
theorem dX9_cheapest_75 : decode cX9_cheapest 75 = .ok (.aload_n 0, 1) := by decide +kernel
theorem dX9_cheapest_76 : decode cX9_cheapest 76 = .ok (.iload 5, 2) := by decide +kernel
theorem dX9_cheapest_78 : decode cX9_cheapest 78 = .ok (.iconst 2, 1) := by decide +kernel
theorem dX9_cheapest_79 : decode cX9_cheapest 79 = .ok (.invokevirtual 216, 3) := by decide +kernel
theorem dX9_cheapest_82 : decode cX9_cheapest 82 = .ok (.iadd, 1) := by decide +kernel
theorem dX9_cheapest_83 : decode cX9_cheapest 83 = .ok (.iload_n 2, 1) := by decide +kernel
theorem dX9_cheapest_84 : decode cX9_cheapest 84 = .ok (.if_icmp .lt 7, 3) := by decide +kernel
theorem dX9_cheapest_87 : decode cX9_cheapest 87 = .ok (.iconst 1, 1) := by decide +kernel
theorem dX9_cheapest_88 : decode cX9_cheapest 88 = .ok (.goto 4, 3) := by decide +kernel
theorem dX9_cheapest_91 : decode cX9_cheapest 91 = .ok (.iconst 0, 1) := by decide +kernel
theorem dX9_cheapest_92 : decode cX9_cheapest 92 = .ok (.istore 6, 2) := by decide +kernel
theorem dX9_cheapest_94 : decode cX9_cheapest 94 = .ok (.iload 6, 2) := by decide +kernel
theorem dX9_cheapest_96 : decode cX9_cheapest 96 = .ok (.ifCond .eq 32, 3) := by decide +kernel
theorem dX9_cheapest_99 : decode cX9_cheapest 99 = .ok (.iload 4, 2) := by decide +kernel
theorem dX9_cheapest_101 : decode cX9_cheapest 101 = .ok (.bipush (-9), 2) := by decide +kernel
theorem dX9_cheapest_103 : decode cX9_cheapest 103 = .ok (.if_icmp .eq 20, 3) := by decide +kernel
theorem dX9_cheapest_106 : decode cX9_cheapest 106 = .ok (.aload_n 0, 1) := by decide +kernel
theorem dX9_cheapest_107 : decode cX9_cheapest 107 = .ok (.iload 5, 2) := by decide +kernel
theorem dX9_cheapest_109 : decode cX9_cheapest 109 = .ok (.iconst 0, 1) := by decide +kernel
theorem dX9_cheapest_110 : decode cX9_cheapest 110 = .ok (.invokevirtual 216, 3) := by decide +kernel
theorem dX9_cheapest_113 : decode cX9_cheapest 113 = .ok (.aload_n 0, 1) := by decide +kernel
theorem dX9_cheapest_114 : decode cX9_cheapest 114 = .ok (.iload 4, 2) := by decide +kernel
theorem dX9_cheapest_116 : decode cX9_cheapest 116 = .ok (.iconst 0, 1) := by decide +kernel
theorem dX9_cheapest_117 : decode cX9_cheapest 117 = .ok (.invokevirtual 216, 3) := by decide +kernel
theorem dX9_cheapest_120 : decode cX9_cheapest 120 = .ok (.if_icmp .ge 8, 3) := by decide +kernel
theorem dX9_cheapest_123 : decode cX9_cheapest 123 = .ok (.iload 5, 2) := by decide +kernel
theorem dX9_cheapest_125 : decode cX9_cheapest 125 = .ok (.goto 5, 3) := by decide +kernel
theorem dX9_cheapest_128 : decode cX9_cheapest 128 = .ok (.iload 4, 2) := by decide +kernel
theorem dX9_cheapest_130 : decode cX9_cheapest 130 = .ok (.istore 4, 2) := by decide +kernel
theorem dX9_cheapest_132 : decode cX9_cheapest 132 = .ok (.iinc 5 1, 3) := by decide +kernel
theorem dX9_cheapest_135 : decode cX9_cheapest 135 = .ok (.goto (-92), 3) := by decide +kernel
theorem dX9_cheapest_138 : decode cX9_cheapest 138 = .ok (.iload 4, 2) := by decide +kernel
theorem dX9_cheapest_140 : decode cX9_cheapest 140 = .ok (.bipush (-9), 2) := by decide +kernel
theorem dX9_cheapest_142 : decode cX9_cheapest 142 = .ok (.if_icmp .eq 8, 3) := by decide +kernel
theorem dX9_cheapest_145 : decode cX9_cheapest 145 = .ok (.iload_n 3, 1) := by decide +kernel
theorem dX9_cheapest_146 : decode cX9_cheapest 146 = .ok (.iconst 1, 1) := by decide +kernel
theorem dX9_cheapest_147 : decode cX9_cheapest 147 = .ok (.if_icmp .ne 8, 3) := by decide +kernel
theorem dX9_cheapest_150 : decode cX9_cheapest 150 = .ok (.iload 4, 2) := by decide +kernel
theorem dX9_cheapest_152 : decode cX9_cheapest 152 = .ok (.goto 10, 3) := by decide +kernel
theorem dX9_cheapest_155 : decode cX9_cheapest 155 = .ok (.aload_n 0, 1) := by decide +kernel
theorem dX9_cheapest_156 : decode cX9_cheapest 156 = .ok (.iload 4, 2) := by decide +kernel
theorem dX9_cheapest_158 : decode cX9_cheapest 158 = .ok (.iconst 0, 1) := by decide +kernel
theorem dX9_cheapest_159 : decode cX9_cheapest 159 = .ok (.invokevirtual 216, 3) := by decide +kernel
theorem dX9_cheapest_162 : decode cX9_cheapest 162 = .ok (.ireturn, 1) := by decide +kernel
theorem iX9_cheapest_9 : ∀ w ∈ wsX90, w ∈ wsX9_cheapest := fun w h => List.mem_cons_of_mem _ (List.mem_append_right _ h)
theorem fX9_cheapest_39 : FL mX9_cheapest 39 9 17 := ⟨_, _, _, rfl, by decide, iX9_cheapest_9, by decide +kernel⟩
set_option maxRecDepth 20000 in
theorem ggX9_cheapest_X9_in : GoodIn wsX9_cheapest wsX9_in := goodIn_r _ [6] (by decide +kernel) (by decide +kernel)
set_option maxRecDepth 20000 in
theorem gX9_cheapest_X9_in : GoodIn wsX9_cheapest (va_wsS RX9 60 yX9_in wsX9_in) := goodIn_app (goodIn_of _ (by decide +kernel)) ggX9_cheapest_X9_in
theorem wX9_cheapest_60 : CWS mX9_cheapest 60 mX9_in 3 := ⟨gX9_cheapest_X9_in, ⟨_, rfl⟩, by decide +kernel, by decide +kernel, by decide +kernel⟩
set_option maxRecDepth 20000 in
theorem ggX9_cheapest_X9_sumOf : GoodIn wsX9_cheapest wsX9_sumOf := goodIn_r _ [10, 11, 12, 13, 14, 15, 16, 17, 18, 19, 20, 21, 22, 23, 24, 25, 26, 27, 28, 29, 30, 31, 32, 33, 34, 35, 36] (by decide +kernel) (by decide +kernel)
set_option maxRecDepth 20000 in
theorem gX9_cheapest_X9_sumOf : GoodIn wsX9_cheapest (wsV RX9 216 RX9 yX9_sumOf wsX9_sumOf) := goodIn_app (goodIn_of _ (by decide +kernel)) ggX9_cheapest_X9_sumOf
theorem wX9_cheapest_216 : CWV mX9_cheapest 216 mX9_sumOf 2 := ⟨gX9_cheapest_X9_sumOf, ⟨_, rfl⟩, rfl, by decide +kernel, by decide +kernel, by decide +kernel⟩
abbrev mX9_changer : mT := (yX9_changer, RX9, cX9_changer, 6, (some .int), wsX9_changer)
abbrev rX9_changer : Room := { frames := 2, cells := 0, slots := 0, locals := 48 }
theorem dX9_changer_0 : decode cX9_changer 0 = .ok (.aload_n 0, 1) := by decide +kernel
theorem dX9_changer_1 : decode cX9_changer 1 = .ok (.iload_n 1, 1) := by decide +kernel
theorem dX9_changer_2 : decode cX9_changer 2 = .ok (.invokevirtual 117, 3) := by decide +kernel
theorem dX9_changer_5 : decode cX9_changer 5 = .ok (.ifCond .eq 25, 3) := by decide +kernel
theorem dX9_changer_8 : decode cX9_changer 8 = .ok (.iload_n 2, 1) := by decide +kernel
theorem dX9_changer_9 : decode cX9_changer 9 = .ok (.i2l, 1) := by decide +kernel
theorem dX9_changer_10 : decode cX9_changer 10 = .ok (.lconst 0, 1) := by decide +kernel
theorem dX9_changer_11 : decode cX9_changer 11 = .ok (.ldc2_w 127, 3) := by decide +kernel
theorem dX9_changer_14 : decode cX9_changer 14 = .ok (.invokestatic 60, 3) := by decide +kernel
theorem dX9_changer_17 : decode cX9_changer 17 = .ok (.ifCond .eq 13, 3) := by decide +kernel
theorem dX9_changer_20 : decode cX9_changer 20 = .ok (.iload_n 3, 1) := by decide +kernel
theorem dX9_changer_21 : decode cX9_changer 21 = .ok (.i2l, 1) := by decide +kernel
theorem dX9_changer_22 : decode cX9_changer 22 = .ok (.lconst 0, 1) := by decide +kernel
theorem dX9_changer_23 : decode cX9_changer 23 = .ok (.lconst 1, 1) := by decide +kernel
theorem dX9_changer_24 : decode cX9_changer 24 = .ok (.invokestatic 60, 3) := by decide +kernel
theorem dX9_changer_27 : decode cX9_changer 27 = .ok (.ifCond .ne 5, 3) := by decide +kernel
theorem dX9_changer_30 : decode cX9_changer 30 = .ok (.iconst (-1), 1) := by decide +kernel
theorem dX9_changer_31 : decode cX9_changer 31 = .ok (.ireturn, 1) := by decide +kernel
theorem dX9_changer_32 : decode cX9_changer 32 = .ok (.iconst 0, 1) := by decide +kernel
theorem dX9_changer_33 : decode cX9_changer 33 = .ok (.istore 4, 2) := by decide +kernel
theorem dX9_changer_35 : decode cX9_changer 35 = .ok (.iconst 1, 1) := by decide +kernel
theorem dX9_changer_36 : decode cX9_changer 36 = .ok (.istore 5, 2) := by decide +kernel
theorem dX9_changer_38 : decode cX9_changer 38 = .ok (.iload 5, 2) := by decide +kernel
theorem dX9_changer_40 : decode cX9_changer 40 = .ok (.bipush 10, 2) := by decide +kernel
theorem dX9_changer_42 : decode cX9_changer 42 = .ok (.if_icmp .gt 37, 3) := by decide +kernel
theorem dX9_changer_45 : decode cX9_changer 45 = .ok (.aload_n 0, 1) := by decide +kernel
theorem dX9_changer_46 : decode cX9_changer 46 = .ok (.iload_n 1, 1) := by decide +kernel
theorem dX9_changer_47 : decode cX9_changer 47 = .ok (.iload_n 2, 1) := by decide +kernel
theorem dX9_changer_48 : decode cX9_changer 48 = .ok (.iload 5, 2) := by decide +kernel
theorem dX9_changer_50 : decode cX9_changer 50 = .ok (.invokevirtual 210, 3) := by decide +kernel
theorem dX9_changer_53 : decode cX9_changer 53 = .ok (.aload_n 0, 1) := by decide +kernel
theorem dX9_changer_54 : decode cX9_changer 54 = .ok (.iload_n 1, 1) := by decide +kernel
theorem dX9_changer_55 : decode cX9_changer 55 = .ok (.iload_n 2, 1) := by decide +kernel
theorem dX9_changer_56 : decode cX9_changer 56 = .ok (.iload 4, 2) := by decide +kernel
theorem dX9_changer_58 : decode cX9_changer 58 = .ok (.invokevirtual 210, 3) := by decide +kernel
theorem dX9_changer_61 : decode cX9_changer 61 = .ok (.if_icmp .lt 8, 3) := by decide +kernel
theorem dX9_changer_64 : decode cX9_changer 64 = .ok (.iload 5, 2) := by decide +kernel
theorem dX9_changer_66 : decode cX9_changer 66 = .ok (.goto 5, 3) := by decide +kernel
theorem dX9_changer_69 : decode cX9_changer 69 = .ok (.iload 4, 2) := by decide +kernel
theorem dX9_changer_71 : decode cX9_changer 71 = .ok (.istore 4, 2) := by decide +kernel
theorem dX9_changer_73 : decode cX9_changer 73 = .ok (.iinc 5 1, 3) := by decide +kernel
theorem dX9_changer_76 : decode cX9_changer 76 = .ok (.goto (-38), 3) := by decide +kernel
theorem dX9_changer_79 : decode cX9_changer 79 = .ok (.iload_n 3, 1) := by decide +kernel
theorem dX9_changer_80 : decode cX9_changer 80 = .ok (.ifCond .ne 8, 3) := by decide +kernel
theorem dX9_changer_83 : decode cX9_changer 83 = .ok (.iload 4, 2) := by decide +kernel
theorem dX9_changer_85 : decode cX9_changer 85 = .ok (.goto 11, 3) := by decide +kernel
theorem dX9_changer_88 : decode cX9_changer 88 = .ok (.aload_n 0, 1) := by decide +kernel
theorem dX9_changer_89 : decode cX9_changer 89 = .ok (.iload_n 1, 1) := by decide +kernel
theorem dX9_changer_90 : decode cX9_changer 90 = .ok (.iload_n 2, 1) := by decide +kernel
theorem dX9_changer_91 : decode cX9_changer 91 = .ok (.iload 4, 2) := by decide +kernel
theorem dX9_changer_93 : decode cX9_changer 93 = .ok (.invokevirtual 210, 3) := by decide +kernel
theorem dX9_changer_96 : decode cX9_changer 96 = .ok (.ireturn, 1) := by decide +kernel
set_option maxRecDepth 20000 in
theorem ggX9_changer_X9_in : GoodIn wsX9_changer wsX9_in := goodIn_r _ [10] (by decide +kernel) (by decide +kernel)
set_option maxRecDepth 20000 in
theorem gX9_changer_X9_in : GoodIn wsX9_changer (va_wsS RX9 60 yX9_in wsX9_in) := goodIn_app (goodIn_of _ (by decide +kernel)) ggX9_changer_X9_in
theorem wX9_changer_60 : CWS mX9_changer 60 mX9_in 3 := ⟨gX9_changer_X9_in, ⟨_, rfl⟩, by decide +kernel, by decide +kernel, by decide +kernel⟩
set_option maxRecDepth 20000 in
theorem ggX9_changer_X9_isPerson : GoodIn wsX9_changer wsX9_isPerson := goodIn_r _ [6, 7, 8, 9, 5, 10, 21, 22, 23, 24, 25, 26, 27, 28, 29, 30, 31, 32, 33, 34, 35, 36, 37, 38, 39, 40, 41, 42, 43, 44, 45] (by decide +kernel) (by decide +kernel)
set_option maxRecDepth 20000 in
theorem gX9_changer_X9_isPerson : GoodIn wsX9_changer (wsV RX9 117 RX9 yX9_isPerson wsX9_isPerson) := goodIn_app (goodIn_of _ (by decide +kernel)) ggX9_changer_X9_isPerson
theorem wX9_changer_117 : CWV mX9_changer 117 mX9_isPerson 1 := ⟨gX9_changer_X9_isPerson, ⟨_, rfl⟩, rfl, by decide +kernel, by decide +kernel, by decide +kernel⟩
set_option maxRecDepth 20000 in
theorem ggX9_changer_X9_heldAt : GoodIn wsX9_changer wsX9_heldAt := goodIn_r _ [14, 15, 16, 17, 18, 5, 19, 20, 21, 22, 23, 24, 25, 26, 27, 28, 29, 30, 31, 32, 33, 34, 35, 36, 37, 38, 39, 40, 41, 42, 43, 44, 45] (by decide +kernel) (by decide +kernel)
set_option maxRecDepth 20000 in
theorem gX9_changer_X9_heldAt : GoodIn wsX9_changer (wsV RX9 210 RX9 yX9_heldAt wsX9_heldAt) := goodIn_app (goodIn_of _ (by decide +kernel)) ggX9_changer_X9_heldAt
theorem wX9_changer_210 : CWV mX9_changer 210 mX9_heldAt 3 := ⟨gX9_changer_X9_heldAt, ⟨_, rfl⟩, rfl, by decide +kernel, by decide +kernel, by decide +kernel⟩
/-- wear under way in the reference: all below 10 p, and those of p above w and below 9 -/
def wrM (f : Nat → Int32) (p w : Nat) : Nat → Int32 := fun j => if j < p * 10 ∨ (p * 10 + w < j ∧ j ≤ p * 10 + 8) then wearF f j else f j
theorem wm_out {f : Nat → Int32} {p w j : Nat} (h : ¬ (j < p * 10 ∨ (p * 10 + w < j ∧ j ≤ p * 10 + 8))) : wrM f p w j = f j := if_neg h
theorem wm_in {f : Nat → Int32} {p w j : Nat} (h : j < p * 10 ∨ (p * 10 + w < j ∧ j ≤ p * 10 + 8)) : wrM f p w j = wearF f j := if_pos h
theorem wm_0 {f : Nat → Int32} {p : Nat} : wrM f p 8 = wrI f p 9 := by
  funext j
  by_cases h : j < p * 10
  · rw [wm_in (by omega), wr_in (by omega)]
  · rw [wm_out (by omega), wr_out (by omega)]
theorem wm_b {f : Nat → Int32} {p w : Nat} (hw : w < 8) : upd (wrM f p (w + 1)) (p * 10 + (w + 1)) (wrM f p (w + 1) (p * 10 + w)) = wrM f p w := by
  funext j
  by_cases hj : j = p * 10 + (w + 1)
  · subst hj
    rw [pk_us, wm_in (w := w) (by omega), wm_out (w := w + 1) (by omega)]
    unfold wearF
    rw [if_neg (by omega), if_neg (by omega)]
    rfl
  · rw [pk_un hj]
    by_cases h : j < p * 10 ∨ (p * 10 + w < j ∧ j ≤ p * 10 + 8)
    · rw [wm_in (by omega), wm_in (by omega)]
    · rw [wm_out (by omega), wm_out (by omega)]
theorem wm_c {f : Nat → Int32} {p : Nat} {s : Int32} (hs : s = f (p * 10 + 9) + f (p * 10 + 8)) : upd (upd (wrM f p 0) (p * 10) 0) (p * 10 + 9) (if s < 99 then s else 99) = wrI f (p + 1) 9 := by
  funext j
  by_cases h9 : j = p * 10 + 9
  · subst h9
    rw [pk_us, wr_in (w := 9) (by omega), hs]
    unfold wearF
    rw [if_pos (show (p * 10 + 9) % 10 = 9 by omega)]
    rfl
  · rw [pk_un h9]
    by_cases h0 : j = p * 10
    · subst h0
      rw [pk_us, wr_in (w := 9) (by omega)]
      unfold wearF
      rw [if_neg (by omega), if_pos (by omega)]
    · rw [pk_un h0]
      by_cases h : j < (p + 1) * 10
      · rw [wm_in (by omega), wr_in (by omega)]
      · rw [wm_out (by omega), wr_out (by omega)]
section
variable {Γ : gT} {l : Launch} {as : List Nat} {h : aH} {m : Nat} {tc : Int64} {r : Nat → Nat} {z : Nat → Int32} {n k : Nat} {f u c ya lw x o : Nat → Int32}
theorem wear_inner (hM : hat as h m (mo tc r z)) (hf : hat as h (r 13) (aI Γ 240 f)) {p : Nat} (hp : p < 8) {s v1 : Int32} {Z : zT} (K : ∀ v5 : Int32, V Γ l mX9_wear rX9_wear Z 0 0 71 [(0, .ref m), (1, .int v1), (2, .int (nI p)), (3, .int (nI (p * 10))), (4, .int s), (5, .int v5)] [] as (hset h (r 13) (aI Γ 240 (wrM f p 0)))) : ∀ (w : Nat) (v5 : Int32) (ls : List (Nat × Value)) (h' : aH), w ≤ 8 → v5 = nI w → h' = hset h (r 13) (aI Γ 240 (wrM f p w)) → lin ls [(0, .ref m), (1, .int v1), (2, .int (nI p)), (3, .int (nI (p * 10))), (4, .int s), (5, .int v5)] → V Γ l mX9_wear rX9_wear Z 0 0 40 ls [] as h' := by
  have e1 := hat_oa hM hf
  intro w
  induction w with
  | zero =>
    intro v5 ls h' hw hv hh hl
    subst hv hh
    refine V.at ?_ hl
    refine q_iload dX9_wear_40 rfl ?_
    refine q_if_le 71 dX9_wear_42 (by decide) (fun _ => ?_) (fun z => absurd (Int32.le_refl _) z)
    exact K _
  | succ w ih =>
    intro v5 ls h' hw hv hh hl
    subst hv hh
    refine V.at ?_ hl
    refine q_iload dX9_wear_40 rfl ?_
    refine q_if_le 71 dX9_wear_42 (by decide) (fun z => absurd z (nI_nle (by omega) (by omega))) (fun _ => ?_)
    refine q_aload_n dX9_wear_45 rfl rfl ?_
    refine q_get dX9_wear_46 fX9_wear_26 (hat_ne hM e1) rfl ?_
    refine q_iload_n dX9_wear_49 rfl rfl ?_
    refine q_iload dX9_wear_50 rfl ?_
    refine q_iadd dX9_wear_52 ?_
    refine q_aload_n dX9_wear_53 rfl rfl ?_
    refine q_get dX9_wear_54 fX9_wear_26 (hat_ne hM e1) rfl ?_
    refine q_iload_n dX9_wear_57 rfl rfl ?_
    refine q_iload dX9_wear_58 rfl ?_
    refine q_iadd dX9_wear_60 ?_
    refine q_iconst (v := 1) dX9_wear_61 rfl ?_
    refine q_isub dX9_wear_62 ?_
    rw [nI_add, show nI (p * 10 + (w + 1)) - 1 = nI (p * 10 + w) from nI_pred (p * 10 + w)]
    refine q_iald dX9_wear_63 (hat_set hf) (in_nI (show p * 10 + w < 240 by omega) (by omega)) ?_
    refine q_iast dX9_wear_64 (hat_set hf) (in_nI (show p * 10 + (w + 1) < 240 by omega) (by omega)) ?_
    refine q_iincM dX9_wear_65 rfl (by decide) ?_
    refine q_goto 40 dX9_wear_68 (by decide) ?_
    exact ih _ _ _ (by omega) (pk_m1 w) (by rw [hset_hset, nI_clamp (by omega), nI_clamp (by omega), wm_b (by omega)]) ⟨rfl, rfl, rfl, rfl, rfl, rfl, trivial⟩
theorem n_wear (hM : hat as h m (mo tc r z)) (hf : hat as h (r 13) (aI Γ 240 f)) : Det Γ l mX9_wear rX9_wear [.ref m, .int 0] as h none (hset h (r 13) (aI Γ 240 (wearA f))) := by
  have e1 := hat_oa hM hf
  have key : ∀ (d p : Nat) (v2 : Int32) (ls : List (Nat × Value)) (h' : aH), p + d = 8 → v2 = nI p → h' = hset h (r 13) (aI Γ 240 (wrI f p 9)) → lin ls [(0, .ref m), (1, .int 0), (2, .int v2)] → V Γ l mX9_wear rX9_wear (Zm Γ rX9_wear (qD none as (hset h (r 13) (aI Γ 240 (wearA f))))) 0 0 2 ls [] as h' := by
    intro d
    induction d with
    | zero =>
      intro p v2 ls h' hp hv hh hl
      subst hv hh
      refine V.at ?_ hl
      refine q_iload_n dX9_wear_2 rfl rfl ?_
      refine q_bipush (v := 8) dX9_wear_3 rfl ?_
      refine q_icmp_ge 107 dX9_wear_5 (by decide) (fun _ => ?_) (fun z => absurd (ge_c 8 rfl (by omega) (by omega)) z)
      exact q_vret dX9_wear_107 rfl (Nat.zero_le _) (Nat.zero_le _) (⟨rfl, rfl, by rw [show p = 8 by omega]; rfl⟩)
    | succ d ih =>
      intro p v2 ls h' hp hv hh hl
      subst hv hh
      have hp8 : p < 8 := by omega
      have ix : (0 : Int32) + 10 * nI p = nI (p * 10) := by
        rw [show (0 : Int32) + 10 * nI p = nI 0 + nI 10 * nI p from rfl, pk_mul, nI_add]
        congr 1
        omega
      have a9 : wrI f p 9 (p * 10 + 9) = f (p * 10 + 9) := wr_out (by omega)
      have a8 : wrI f p 9 (p * 10 + 8) = f (p * 10 + 8) := wr_out (by omega)
      have fin : ∀ q : Int32, q = (if f (p * 10 + 9) + f (p * 10 + 8) < 99 then f (p * 10 + 9) + f (p * 10 + 8) else 99) → V Γ l mX9_wear rX9_wear (Zm Γ rX9_wear (qD none as (hset h (r 13) (aI Γ 240 (wearA f))))) 0 0 100 [(0, .ref m), (1, .int 0), (2, .int (nI p))] [.int q, .int (nI (p * 10 + 9)), .ref (r 13)] as (hset h (r 13) (aI Γ 240 (upd (wrM f p 0) (p * 10) 0))) := by
        intro q hq
        subst hq
        refine q_iast dX9_wear_100 (hat_set hf) (in_nI (show p * 10 + 9 < 240 by omega) (by omega)) ?_
        refine q_iinc1 dX9_wear_101 rfl (by decide) ?_
        refine q_goto 2 dX9_wear_104 (by decide) ?_
        exact ih (p + 1) _ _ _ (by omega) (nI_s p) (by rw [hset_hset, nI_clamp (by omega), wm_c rfl]) ⟨rfl, rfl, rfl, trivial⟩
      refine V.at ?_ hl
      refine q_iload_n dX9_wear_2 rfl rfl ?_
      refine q_bipush (v := 8) dX9_wear_3 rfl ?_
      refine q_icmp_ge 107 dX9_wear_5 (by decide) (fun z => absurd z (lt_c 8 rfl (by omega) (by omega))) (fun _ => ?_)
      refine q_iload_n dX9_wear_8 rfl rfl ?_
      refine q_bipush (v := 10) dX9_wear_9 rfl ?_
      refine q_iload_n dX9_wear_11 rfl rfl ?_
      refine q_imul dX9_wear_12 ?_
      refine q_iadd dX9_wear_13 ?_
      rw [ix]
      refine q_istore_n dX9_wear_14 rfl (by decide) ?_
      refine q_aload_n dX9_wear_15 rfl rfl ?_
      refine q_get dX9_wear_16 fX9_wear_26 (hat_ne hM e1) rfl ?_
      refine q_iload_n dX9_wear_19 rfl rfl ?_
      refine q_bipush (v := 9) dX9_wear_20 rfl ?_
      refine q_iadd dX9_wear_22 ?_
      rw [show nI (p * 10) + 9 = nI (p * 10 + 9) from nI_add (p * 10) 9]
      refine q_iald dX9_wear_23 (hat_set hf) (in_nI (show p * 10 + 9 < 240 by omega) (by omega)) ?_
      refine q_aload_n dX9_wear_24 rfl rfl ?_
      refine q_get dX9_wear_25 fX9_wear_26 (hat_ne hM e1) rfl ?_
      refine q_iload_n dX9_wear_28 rfl rfl ?_
      refine q_bipush (v := 8) dX9_wear_29 rfl ?_
      refine q_iadd dX9_wear_31 ?_
      rw [show nI (p * 10) + 8 = nI (p * 10 + 8) from nI_add (p * 10) 8]
      refine q_iald dX9_wear_32 (hat_set hf) (in_nI (show p * 10 + 8 < 240 by omega) (by omega)) ?_
      refine q_iadd dX9_wear_33 ?_
      rw [nI_clamp (by omega), nI_clamp (by omega), a9, a8]
      refine q_istore dX9_wear_34 (by decide) ?_
      refine q_bipush (v := 8) dX9_wear_36 rfl ?_
      refine q_istore dX9_wear_38 (by decide) ?_
      refine wear_inner hM hf hp8 (s := f (p * 10 + 9) + f (p * 10 + 8)) (v1 := 0) (fun v5 => ?_) 8 _ _ _ (by omega) rfl (by rw [wm_0]) ⟨rfl, rfl, rfl, rfl, rfl, rfl, trivial⟩
      refine q_aload_n dX9_wear_71 rfl rfl ?_
      refine q_get dX9_wear_72 fX9_wear_26 (hat_ne hM e1) rfl ?_
      refine q_iload_n dX9_wear_75 rfl rfl ?_
      refine q_iconst (v := 0) dX9_wear_76 rfl ?_
      refine q_iast dX9_wear_77 (hat_set hf) (in_nI (show p * 10 < 240 by omega) (by omega)) ?_
      rw [hset_hset, nI_clamp (by omega)]
      refine q_aload_n dX9_wear_78 rfl rfl ?_
      refine q_get dX9_wear_79 fX9_wear_26 (hat_ne hM e1) rfl ?_
      refine q_iload_n dX9_wear_82 rfl rfl ?_
      refine q_bipush (v := 9) dX9_wear_83 rfl ?_
      refine q_iadd dX9_wear_85 ?_
      refine q_iload dX9_wear_86 rfl ?_
      refine q_bipush (v := 99) dX9_wear_88 rfl ?_
      rw [show nI (p * 10) + 9 = nI (p * 10 + 9) from nI_add (p * 10) 9]
      refine q_icmp_le 98 dX9_wear_90 (by decide) (fun cA => ?_) (fun cA => ?_)
      · refine q_iload dX9_wear_98 rfl ?_
        exact V.at (fin _ (by by_cases e : f (p * 10 + 9) + f (p * 10 + 8) < 99; rw [if_pos e]; rw [if_neg e]; exact Int32.le_antisymm cA (Int32.not_lt.mp e))) ⟨rfl, rfl, rfl, trivial⟩
      · refine q_bipush (v := 99) dX9_wear_93 rfl ?_
        refine q_goto 100 dX9_wear_95 (by decide) ?_
        exact V.at (fin _ (by rw [if_neg (fun e => cA (Int32.le_of_lt e))])) ⟨rfl, rfl, rfl, trivial⟩
  refine Con.of (by decide +kernel) rfl rfl (Nat.le_of_ble_eq_true rfl) ?_
  refine q_iconst (v := 0) dX9_wear_0 rfl ?_
  refine q_istore_n dX9_wear_1 rfl (by decide) ?_
  exact key 8 0 _ _ _ (by omega) rfl (by rw [wr_0, hset_same]; exact hf.2) ⟨rfl, rfl, rfl, trivial⟩
theorem n_year_bad {q : Int32} (hb : q < 1 ∨ 50 < q) : Det Γ l mX9_year rX9_year [.ref m, .int q] as h (some (.int (-1))) h := by
  refine Con.of (by decide +kernel) rfl rfl (Nat.le_of_ble_eq_true rfl) ?_
  refine q_iload_n dX9_year_0 rfl rfl ?_
  refine q_i2l dX9_year_1 ?_
  refine q_lconst (v := 1) dX9_year_2 rfl ?_
  refine q_ldc2 (v := 50) dX9_year_3 (by decide +kernel) ?_
  refine q_callSd dX9_year_6 wX9_year_60 (n_in) rfl rfl (Nat.le_of_ble_eq_true rfl) ⟨⟨Nat.le_of_ble_eq_true rfl, Nat.le_of_ble_eq_true rfl⟩, Nat.le_of_ble_eq_true rfl, Nat.le_of_ble_eq_true rfl⟩ ?_
  refine q_if_ne 14 dX9_year_9 (by decide) (fun z => absurd (by rw [inB_no (a := 1) (b := 50) (by decide) (by decide) hb]; rfl) z) (fun _ => ?_)
  refine q_iconst (v := (-1)) dX9_year_12 rfl ?_
  exact q_iret dX9_year_13 rfl (Nat.zero_le _) (Nat.zero_le _) (⟨rfl, rfl, rfl⟩)
theorem n_year_late {q yy : Nat} (hq0 : 1 ≤ q) (hq : q ≤ 50) (hyy : yy ≤ 1000) (hl : 1000 < yy + q) (hM : hat as h m (mo tc r z)) (hy : hat as h (r 15) (aI Γ 3 ya)) (hy0 : ya 0 = nI yy) : Det Γ l mX9_year rX9_year [.ref m, .int (nI q)] as h (some (.int (-2))) h := by
  refine Con.of (by decide +kernel) rfl rfl (Nat.le_of_ble_eq_true rfl) ?_
  refine q_iload_n dX9_year_0 rfl rfl ?_
  refine q_i2l dX9_year_1 ?_
  refine q_lconst (v := 1) dX9_year_2 rfl ?_
  refine q_ldc2 (v := 50) dX9_year_3 (by decide +kernel) ?_
  refine q_callSd dX9_year_6 wX9_year_60 (n_in) rfl rfl (Nat.le_of_ble_eq_true rfl) ⟨⟨Nat.le_of_ble_eq_true rfl, Nat.le_of_ble_eq_true rfl⟩, Nat.le_of_ble_eq_true rfl, Nat.le_of_ble_eq_true rfl⟩ ?_
  refine q_if_ne 14 dX9_year_9 (by decide) (fun _ => ?_) (fun z => absurd z (by rw [inB_nI (a := 1) (b := 50) (by decide) (by decide) hq0 hq (by omega)]; decide))
  refine q_aload_n dX9_year_14 rfl rfl ?_
  refine q_get dX9_year_15 fX9_year_32 (hM) rfl ?_
  refine q_iconst (v := 0) dX9_year_18 rfl ?_
  refine q_iald dX9_year_19 (hy) (in_nI (k := 0) (by omega) (by omega)) ?_
  refine q_iload_n dX9_year_20 rfl rfl ?_
  refine q_iadd dX9_year_21 ?_
  refine q_sipush (v := 1000) dX9_year_22 rfl ?_
  rw [show ya (0 : Int32).toNatClampNeg = nI yy from hy0, nI_add]
  refine q_icmp_le 31 dX9_year_25 (by decide) (fun z => absurd z (nI_ge (a := 1000) hl (by omega))) (fun _ => ?_)
  refine q_bipush (v := (-2)) dX9_year_28 rfl ?_
  exact q_iret dX9_year_30 rfl (Nat.zero_le _) (Nat.zero_le _) (⟨rfl, rfl, rfl⟩)
theorem n_year {q yy wr : Nat} (hq0 : 1 ≤ q) (hq : q ≤ 50) (hyy : yy + q ≤ 1000) (hw0 : 0 < wr) (hw1 : wr ≤ 99) (hwr : u 5 = nI wr) (hM : hat as h m (mo tc r z)) (hf : hat as h (r 13) (aI Γ 240 f)) (hu : hat as h (r 17) (aI Γ 6 u)) (hy : hat as h (r 15) (aI Γ 3 ya)) (hy0 : ya 0 = nI yy) : Det Γ l mX9_year rX9_year [.ref m, .int (nI q)] as h (some (.int (nI (yy + q)))) (hset (hset h (r 15) (aI Γ 3 (upd ya 0 (nI (yy + q))))) (r 13) (aI Γ 240 (yrS f yy wr q))) := by
  have e1 := hat_oa hM hy
  have e2 := hat_oa hM hf
  have e3 := hat_nl hy hf (by decide)
  have xM : ∀ a b : va_E, hat as (hset (hset h (r 15) a) (r 13) b) m (mo tc r z) := fun a b => hat_ne (hat_ne hM e1) e2
  have xu : ∀ a b : va_E, hat as (hset (hset h (r 15) a) (r 13) b) (r 17) (aI Γ 6 u) := fun a b => hat_ne (hat_ne hu (hat_nl hu hy (by decide))) (hat_nl hu hf (by decide))
  have xy : ∀ a b : va_E, hat as (hset (hset h (r 15) a) (r 13) b) (r 15) a := fun a b => hat_ne (hat_set hy) e3
  have xf : ∀ a b : va_E, hat as (hset (hset h (r 15) a) (r 13) b) (r 13) b := fun a b => hat_set (hat_ne hf e3.symm)
  have sw : ∀ a b d : va_E, hset (hset (hset h (r 15) a) (r 13) b) (r 15) d = hset (hset h (r 15) d) (r 13) b := fun a b d => by rw [hset_comm e3, hset_hset]
  have key : ∀ (d i : Nat) (v2 : Int32) (ls : List (Nat × Value)) (h' : aH), i + d = q → v2 = nI i → h' = hset (hset h (r 15) (aI Γ 3 (upd ya 0 (nI (yy + i))))) (r 13) (aI Γ 240 (yrS f yy wr i)) → lin ls [(0, .ref m), (1, .int (nI q)), (2, .int v2)] → V Γ l mX9_year rX9_year (Zm Γ rX9_year (qD (some (.int (nI (yy + q)))) as (hset (hset h (r 15) (aI Γ 3 (upd ya 0 (nI (yy + q))))) (r 13) (aI Γ 240 (yrS f yy wr q))))) 0 0 33 ls [] as h' := by
    intro d
    induction d with
    | zero =>
      intro i v2 ls h' hi hv hh hl
      subst hv hh
      refine V.at ?_ hl
      refine q_iload_n dX9_year_33 rfl rfl ?_
      refine q_iload_n dX9_year_34 rfl rfl ?_
      refine q_icmp_ge 75 dX9_year_35 (by decide) (fun _ => ?_) (fun z => absurd (nI_le (by omega) (by omega)) z)
      refine q_aload_n dX9_year_75 rfl rfl ?_
      refine q_get dX9_year_76 fX9_year_32 (xM _ _) rfl ?_
      refine q_iconst (v := 0) dX9_year_79 rfl ?_
      refine q_iald dX9_year_80 (xy _ _) (in_nI (k := 0) (by omega) (by omega)) ?_
      exact q_iret dX9_year_81 rfl (Nat.zero_le _) (Nat.zero_le _) (⟨by rw [show i = q by omega]; rfl, rfl, by rw [show i = q by omega]⟩)
    | succ d ih =>
      intro i v2 ls h' hi hv hh hl
      subst hv hh
      refine V.at ?_ hl
      refine q_iload_n dX9_year_33 rfl rfl ?_
      refine q_iload_n dX9_year_34 rfl rfl ?_
      refine q_icmp_ge 75 dX9_year_35 (by decide) (fun z => absurd z (nI_ge (by omega) (by omega))) (fun _ => ?_)
      refine q_aload_n dX9_year_38 rfl rfl ?_
      refine q_get dX9_year_39 fX9_year_32 (xM _ _) rfl ?_
      refine q_iconst (v := 0) dX9_year_42 rfl ?_
      refine q_dup2 dX9_year_43 rfl rfl ?_
      refine q_iald dX9_year_44 (xy _ _) (in_nI (k := 0) (by omega) (by omega)) ?_
      refine q_iconst (v := 1) dX9_year_45 rfl ?_
      refine q_iadd dX9_year_46 ?_
      refine q_iast dX9_year_47 (xy _ _) (in_nI (k := 0) (by omega) (by omega)) ?_
      rw [sw, show upd (upd ya 0 (nI (yy + i))) (0 : Int32).toNatClampNeg (upd ya 0 (nI (yy + i)) (0 : Int32).toNatClampNeg + 1) = upd ya 0 (nI (yy + (i + 1))) from by show upd (upd ya 0 (nI (yy + i))) 0 (nI (yy + i) + 1) = _; rw [upd_upd, nI_s]; rfl]
      refine q_aload_n dX9_year_48 rfl rfl ?_
      refine q_get dX9_year_49 fX9_year_32 (xM _ _) rfl ?_
      refine q_iconst (v := 0) dX9_year_52 rfl ?_
      refine q_iald dX9_year_53 (xy _ _) (in_nI (k := 0) (by omega) (by omega)) ?_
      refine q_aload_n dX9_year_54 rfl rfl ?_
      refine q_get dX9_year_55 fX9_year_39 (xM _ _) rfl ?_
      refine q_iconst (v := 5) dX9_year_58 rfl ?_
      refine q_iald dX9_year_59 (xu _ _) (in_nI (k := 5) (by omega) (by omega)) ?_
      rw [show u (5 : Int32).toNatClampNeg = nI wr from hwr, show upd ya 0 (nI (yy + (i + 1))) (0 : Int32).toNatClampNeg = nI (yy + (i + 1)) from rfl]
      refine q_irem dX9_year_60 (nI_ne0 hw0 (by omega)) ?_
      rw [pk_rem (by omega) hw0 (by omega)]
      refine q_if_ne 69 dX9_year_61 (by decide) (fun cA => ?_) (fun cA => ?_)
      · have hd : ¬ (yy + i + 1) % wr = 0 := fun e => cA (by rw [show yy + (i + 1) = yy + i + 1 by omega, e]; rfl)
        refine q_iinc1 dX9_year_69 rfl (by decide) ?_
        refine q_goto 33 dX9_year_72 (by decide) ?_
        exact ih (i + 1) _ _ _ (by omega) (nI_s i) (by simp only [yrS]; rw [if_neg hd]) ⟨rfl, rfl, rfl, trivial⟩
      · have hd : (yy + i + 1) % wr = 0 := (nI_eq (b := 0) (Nat.lt_of_le_of_lt (Nat.mod_le _ _) (by omega)) (by omega)).mp cA
        refine q_aload_n dX9_year_64 rfl rfl ?_
        refine q_iconst (v := 0) dX9_year_65 rfl ?_
        refine q_callVd dX9_year_66 wX9_year_201 (n_wear (xM _ _) (xf _ _)) (xM _ _) ⟨_, _, rfl⟩ rfl rfl (Nat.le_of_ble_eq_true rfl) ⟨⟨Nat.le_of_ble_eq_true rfl, Nat.le_of_ble_eq_true rfl⟩, Nat.le_of_ble_eq_true rfl, Nat.le_of_ble_eq_true rfl⟩ ?_
        refine q_iinc1 dX9_year_69 rfl (by decide) ?_
        refine q_goto 33 dX9_year_72 (by decide) ?_
        exact ih (i + 1) _ _ _ (by omega) (nI_s i) (by simp only [yrS]; rw [if_pos hd, hset_hset]) ⟨rfl, rfl, rfl, trivial⟩
  refine Con.of (by decide +kernel) rfl rfl (Nat.le_of_ble_eq_true rfl) ?_
  refine q_iload_n dX9_year_0 rfl rfl ?_
  refine q_i2l dX9_year_1 ?_
  refine q_lconst (v := 1) dX9_year_2 rfl ?_
  refine q_ldc2 (v := 50) dX9_year_3 (by decide +kernel) ?_
  refine q_callSd dX9_year_6 wX9_year_60 (n_in) rfl rfl (Nat.le_of_ble_eq_true rfl) ⟨⟨Nat.le_of_ble_eq_true rfl, Nat.le_of_ble_eq_true rfl⟩, Nat.le_of_ble_eq_true rfl, Nat.le_of_ble_eq_true rfl⟩ ?_
  refine q_if_ne 14 dX9_year_9 (by decide) (fun _ => ?_) (fun z => absurd z (by rw [inB_nI (a := 1) (b := 50) (by decide) (by decide) hq0 hq (by omega)]; decide))
  refine q_aload_n dX9_year_14 rfl rfl ?_
  refine q_get dX9_year_15 fX9_year_32 (hM) rfl ?_
  refine q_iconst (v := 0) dX9_year_18 rfl ?_
  refine q_iald dX9_year_19 (hy) (in_nI (k := 0) (by omega) (by omega)) ?_
  refine q_iload_n dX9_year_20 rfl rfl ?_
  refine q_iadd dX9_year_21 ?_
  refine q_sipush (v := 1000) dX9_year_22 rfl ?_
  rw [show ya (0 : Int32).toNatClampNeg = nI yy from hy0, nI_add]
  refine q_icmp_le 31 dX9_year_25 (by decide) (fun _ => ?_) (fun z => absurd (nI_le (b := 1000) hyy (by omega)) z)
  refine q_iconst (v := 0) dX9_year_31 rfl ?_
  refine q_istore_n dX9_year_32 rfl (by decide) ?_
  exact key q 0 _ _ _ (by omega) rfl (by rw [show yrS f yy wr 0 = f from rfl, Nat.add_zero, ← hy0, show upd ya 0 (ya 0) = ya from by funext j; by_cases e : j = 0; rw [e, pk_us]; rw [pk_un e], hset_same hy.2, hset_same hf.2]) ⟨rfl, rfl, rfl, trivial⟩
end

