/-! THE REFERENCE (X9): labour, the first day, seeds, shabby -/
abbrev mX9_spread : mT := (yX9_spread, RX9, cX9_spread, 5, (some .int), wsX9_spread)
abbrev rX9_spread : Room := { frames := 1, cells := 0, slots := 0, locals := 22 }
theorem dX9_spread_0 : decode cX9_spread 0 = .ok (.iload_n 1, 1) := by decide +kernel
theorem dX9_spread_1 : decode cX9_spread 1 = .ok (.iconst 1, 1) := by decide +kernel
theorem dX9_spread_2 : decode cX9_spread 2 = .ok (.aload_n 0, 1) := by decide +kernel
theorem dX9_spread_3 : decode cX9_spread 3 = .ok (.getfield 111, 3) := by decide +kernel
theorem dX9_spread_6 : decode cX9_spread 6 = .ok (.ishl, 1) := by decide +kernel
theorem dX9_spread_7 : decode cX9_spread 7 = .ok (.iconst 1, 1) := by decide +kernel
theorem dX9_spread_8 : decode cX9_spread 8 = .ok (.isub, 1) := by decide +kernel
theorem dX9_spread_9 : decode cX9_spread 9 = .ok (.iand, 1) := by decide +kernel
theorem dX9_spread_10 : decode cX9_spread 10 = .ok (.istore_n 2, 1) := by decide +kernel
theorem dX9_spread_11 : decode cX9_spread 11 = .ok (.iconst 1, 1) := by decide +kernel
theorem dX9_spread_12 : decode cX9_spread 12 = .ok (.istore_n 3, 1) := by decide +kernel
theorem dX9_spread_13 : decode cX9_spread 13 = .ok (.aload_n 0, 1) := by decide +kernel
theorem dX9_spread_14 : decode cX9_spread 14 = .ok (.iconst 0, 1) := by decide +kernel
theorem dX9_spread_15 : decode cX9_spread 15 = .ok (.putfield 219, 3) := by decide +kernel
theorem dX9_spread_18 : decode cX9_spread 18 = .ok (.iload_n 3, 1) := by decide +kernel
theorem dX9_spread_19 : decode cX9_spread 19 = .ok (.ifCond .eq 82, 3) := by decide +kernel
theorem dX9_spread_22 : decode cX9_spread 22 = .ok (.iconst 0, 1) := by decide +kernel
theorem dX9_spread_23 : decode cX9_spread 23 = .ok (.istore_n 3, 1) := by decide +kernel
theorem dX9_spread_24 : decode cX9_spread 24 = .ok (.iconst 0, 1) := by decide +kernel
theorem dX9_spread_25 : decode cX9_spread 25 = .ok (.istore 4, 2) := by decide +kernel
theorem dX9_spread_27 : decode cX9_spread 27 = .ok (.iload 4, 2) := by decide +kernel
theorem dX9_spread_29 : decode cX9_spread 29 = .ok (.aload_n 0, 1) := by decide +kernel
theorem dX9_spread_30 : decode cX9_spread 30 = .ok (.getfield 111, 3) := by decide +kernel
theorem dX9_spread_33 : decode cX9_spread 33 = .ok (.if_icmp .ge 43, 3) := by decide +kernel
theorem dX9_spread_36 : decode cX9_spread 36 = .ok (.iload_n 3, 1) := by decide +kernel
theorem dX9_spread_37 : decode cX9_spread 37 = .ok (.iload_n 2, 1) := by decide +kernel
theorem dX9_spread_38 : decode cX9_spread 38 = .ok (.iload 4, 2) := by decide +kernel
theorem dX9_spread_40 : decode cX9_spread 40 = .ok (.ishr, 1) := by decide +kernel
theorem dX9_spread_41 : decode cX9_spread 41 = .ok (.iconst 1, 1) := by decide +kernel
theorem dX9_spread_42 : decode cX9_spread 42 = .ok (.iand, 1) := by decide +kernel
theorem dX9_spread_43 : decode cX9_spread 43 = .ok (.ifCond .ne 24, 3) := by decide +kernel
theorem dX9_spread_46 : decode cX9_spread 46 = .ok (.iload_n 2, 1) := by decide +kernel
theorem dX9_spread_47 : decode cX9_spread 47 = .ok (.invokestatic 222, 3) := by decide +kernel
theorem dX9_spread_50 : decode cX9_spread 50 = .ok (.aload_n 0, 1) := by decide +kernel
theorem dX9_spread_51 : decode cX9_spread 51 = .ok (.getfield 23, 3) := by decide +kernel
theorem dX9_spread_54 : decode cX9_spread 54 = .ok (.iload 4, 2) := by decide +kernel
theorem dX9_spread_56 : decode cX9_spread 56 = .ok (.iaload, 1) := by decide +kernel
theorem dX9_spread_57 : decode cX9_spread 57 = .ok (.if_icmp .lt 10, 3) := by decide +kernel
theorem dX9_spread_60 : decode cX9_spread 60 = .ok (.iconst 1, 1) := by decide +kernel
theorem dX9_spread_61 : decode cX9_spread 61 = .ok (.iload 4, 2) := by decide +kernel
theorem dX9_spread_63 : decode cX9_spread 63 = .ok (.ishl, 1) := by decide +kernel
theorem dX9_spread_64 : decode cX9_spread 64 = .ok (.goto 4, 3) := by decide +kernel
theorem dX9_spread_67 : decode cX9_spread 67 = .ok (.iconst 0, 1) := by decide +kernel
theorem dX9_spread_68 : decode cX9_spread 68 = .ok (.ior, 1) := by decide +kernel
theorem dX9_spread_69 : decode cX9_spread 69 = .ok (.istore_n 3, 1) := by decide +kernel
theorem dX9_spread_70 : decode cX9_spread 70 = .ok (.iinc 4 1, 3) := by decide +kernel
theorem dX9_spread_73 : decode cX9_spread 73 = .ok (.goto (-46), 3) := by decide +kernel
theorem dX9_spread_76 : decode cX9_spread 76 = .ok (.aload_n 0, 1) := by decide +kernel
theorem dX9_spread_77 : decode cX9_spread 77 = .ok (.dup, 1) := by decide +kernel
theorem dX9_spread_78 : decode cX9_spread 78 = .ok (.getfield 219, 3) := by decide +kernel
theorem dX9_spread_81 : decode cX9_spread 81 = .ok (.iload_n 3, 1) := by decide +kernel
theorem dX9_spread_82 : decode cX9_spread 82 = .ok (.ifCond .ne 7, 3) := by decide +kernel
theorem dX9_spread_85 : decode cX9_spread 85 = .ok (.iconst 0, 1) := by decide +kernel
theorem dX9_spread_86 : decode cX9_spread 86 = .ok (.goto 4, 3) := by decide +kernel
theorem dX9_spread_89 : decode cX9_spread 89 = .ok (.iconst 1, 1) := by decide +kernel
theorem dX9_spread_90 : decode cX9_spread 90 = .ok (.iadd, 1) := by decide +kernel
theorem dX9_spread_91 : decode cX9_spread 91 = .ok (.putfield 219, 3) := by decide +kernel
theorem dX9_spread_94 : decode cX9_spread 94 = .ok (.iload_n 2, 1) := by decide +kernel
theorem dX9_spread_95 : decode cX9_spread 95 = .ok (.iload_n 3, 1) := by decide +kernel
theorem dX9_spread_96 : decode cX9_spread 96 = .ok (.ior, 1) := by decide +kernel
theorem dX9_spread_97 : decode cX9_spread 97 = .ok (.istore_n 2, 1) := by decide +kernel
theorem dX9_spread_98 : decode cX9_spread 98 = .ok (.goto (-80), 3) := by decide +kernel
theorem dX9_spread_101 : decode cX9_spread 101 = .ok (.iload_n 2, 1) := by decide +kernel
theorem dX9_spread_102 : decode cX9_spread 102 = .ok (.ireturn, 1) := by decide +kernel
theorem iX9_spread_9 : ∀ w ∈ wsX90, w ∈ wsX9_spread := fun w h => List.mem_cons_of_mem _ (List.mem_append_right _ h)
theorem fX9_spread_23 : FL mX9_spread 23 9 7 := ⟨_, _, _, rfl, by decide, iX9_spread_9, by decide +kernel⟩
theorem fX9_spread_111 : FL mX9_spread 111 9 3 := ⟨_, _, _, rfl, by decide, iX9_spread_9, by decide +kernel⟩
theorem fX9_spread_219 : FL mX9_spread 219 9 24 := ⟨_, _, _, rfl, by decide, iX9_spread_9, by decide +kernel⟩
theorem pX9_spread_219 : FP mX9_spread 219 9 24 .int false := ⟨_, _, _, tyX9, rfl, by decide, iX9_spread_9, by decide +kernel, tyX9_ok, nmX9, rfl, rfl, fun z => absurd z (by decide)⟩
set_option maxRecDepth 20000 in
theorem ggX9_spread_X9_bitsIn : GoodIn wsX9_spread wsX9_bitsIn := goodIn_r _ [7] (by decide +kernel) (by decide +kernel)
set_option maxRecDepth 20000 in
theorem gX9_spread_X9_bitsIn : GoodIn wsX9_spread (va_wsS RX9 222 yX9_bitsIn wsX9_bitsIn) := goodIn_app (goodIn_of _ (by decide +kernel)) ggX9_spread_X9_bitsIn
theorem wX9_spread_222 : CWS mX9_spread 222 mX9_bitsIn 1 := ⟨gX9_spread_X9_bitsIn, ⟨_, rfl⟩, by decide +kernel, by decide +kernel, by decide +kernel⟩
abbrev mX9_first : mT := (yX9_first, RX9, cX9_first, 4, (some .int), wsX9_first)
abbrev rX9_first : Room := { frames := 2, cells := 0, slots := 0, locals := 46 }
theorem dX9_first_0 : decode cX9_first 0 = .ok (.iload_n 1, 1) := by decide +kernel
theorem dX9_first_1 : decode cX9_first 1 = .ok (.i2l, 1) := by decide +kernel
theorem dX9_first_2 : decode cX9_first 2 = .ok (.lconst 0, 1) := by decide +kernel
theorem dX9_first_3 : decode cX9_first 3 = .ok (.ldc2_w 68, 3) := by decide +kernel
theorem dX9_first_6 : decode cX9_first 6 = .ok (.invokestatic 60, 3) := by decide +kernel
theorem dX9_first_9 : decode cX9_first 9 = .ok (.ifCond .eq 13, 3) := by decide +kernel
theorem dX9_first_12 : decode cX9_first 12 = .ok (.iload_n 2, 1) := by decide +kernel
theorem dX9_first_13 : decode cX9_first 13 = .ok (.i2l, 1) := by decide +kernel
theorem dX9_first_14 : decode cX9_first 14 = .ok (.lconst 0, 1) := by decide +kernel
theorem dX9_first_15 : decode cX9_first 15 = .ok (.lconst 1, 1) := by decide +kernel
theorem dX9_first_16 : decode cX9_first 16 = .ok (.invokestatic 60, 3) := by decide +kernel
theorem dX9_first_19 : decode cX9_first 19 = .ok (.ifCond .ne 5, 3) := by decide +kernel
theorem dX9_first_22 : decode cX9_first 22 = .ok (.iconst (-1), 1) := by decide +kernel
theorem dX9_first_23 : decode cX9_first 23 = .ok (.ireturn, 1) := by decide +kernel
theorem dX9_first_24 : decode cX9_first 24 = .ok (.aload_n 0, 1) := by decide +kernel
theorem dX9_first_25 : decode cX9_first 25 = .ok (.iload_n 1, 1) := by decide +kernel
theorem dX9_first_26 : decode cX9_first 26 = .ok (.invokevirtual 225, 3) := by decide +kernel
theorem dX9_first_29 : decode cX9_first 29 = .ok (.istore_n 3, 1) := by decide +kernel
theorem dX9_first_30 : decode cX9_first 30 = .ok (.iload_n 2, 1) := by decide +kernel
theorem dX9_first_31 : decode cX9_first 31 = .ok (.ifCond .ne 7, 3) := by decide +kernel
theorem dX9_first_34 : decode cX9_first 34 = .ok (.iload_n 3, 1) := by decide +kernel
theorem dX9_first_35 : decode cX9_first 35 = .ok (.goto 7, 3) := by decide +kernel
theorem dX9_first_38 : decode cX9_first 38 = .ok (.aload_n 0, 1) := by decide +kernel
theorem dX9_first_39 : decode cX9_first 39 = .ok (.getfield 219, 3) := by decide +kernel
theorem dX9_first_42 : decode cX9_first 42 = .ok (.ireturn, 1) := by decide +kernel
theorem iX9_first_9 : ∀ w ∈ wsX90, w ∈ wsX9_first := fun w h => List.mem_cons_of_mem _ (List.mem_append_right _ h)
theorem fX9_first_219 : FL mX9_first 219 9 24 := ⟨_, _, _, rfl, by decide, iX9_first_9, by decide +kernel⟩
set_option maxRecDepth 20000 in
theorem ggX9_first_X9_in : GoodIn wsX9_first wsX9_in := goodIn_r _ [6] (by decide +kernel) (by decide +kernel)
set_option maxRecDepth 20000 in
theorem gX9_first_X9_in : GoodIn wsX9_first (va_wsS RX9 60 yX9_in wsX9_in) := goodIn_app (goodIn_of _ (by decide +kernel)) ggX9_first_X9_in
theorem wX9_first_60 : CWS mX9_first 60 mX9_in 3 := ⟨gX9_first_X9_in, ⟨_, rfl⟩, by decide +kernel, by decide +kernel, by decide +kernel⟩
set_option maxRecDepth 20000 in
theorem ggX9_first_X9_spread : GoodIn wsX9_first wsX9_spread := goodIn_r _ [10, 11, 2, 12, 13, 14, 5, 15, 16, 17, 18, 19, 20, 21, 22, 23, 24, 25, 26, 27, 28, 29, 30, 31, 32, 33, 34, 35, 36, 37, 38, 39, 40] (by decide +kernel) (by decide +kernel)
set_option maxRecDepth 20000 in
theorem gX9_first_X9_spread : GoodIn wsX9_first (wsV RX9 225 RX9 yX9_spread wsX9_spread) := goodIn_app (goodIn_of _ (by decide +kernel)) ggX9_first_X9_spread
theorem wX9_first_225 : CWV mX9_first 225 mX9_spread 1 := ⟨gX9_first_X9_spread, ⟨_, rfl⟩, rfl, by decide +kernel, by decide +kernel, by decide +kernel⟩
abbrev mX9_seeds : mT := (yX9_seeds, RX9, cX9_seeds, 5, (some .int), wsX9_seeds)
abbrev rX9_seeds : Room := { frames := 2, cells := 0, slots := 0, locals := 46 }
theorem dX9_seeds_0 : decode cX9_seeds 0 = .ok (.iload_n 1, 1) := by decide +kernel
theorem dX9_seeds_1 : decode cX9_seeds 1 = .ok (.i2l, 1) := by decide +kernel
theorem dX9_seeds_2 : decode cX9_seeds 2 = .ok (.lconst 0, 1) := by decide +kernel
theorem dX9_seeds_3 : decode cX9_seeds 3 = .ok (.lconst 1, 1) := by decide +kernel
theorem dX9_seeds_4 : decode cX9_seeds 4 = .ok (.invokestatic 60, 3) := by decide +kernel
theorem dX9_seeds_7 : decode cX9_seeds 7 = .ok (.ifCond .ne 5, 3) := by decide +kernel
theorem dX9_seeds_10 : decode cX9_seeds 10 = .ok (.iconst (-1), 1) := by decide +kernel
theorem dX9_seeds_11 : decode cX9_seeds 11 = .ok (.ireturn, 1) := by decide +kernel
theorem dX9_seeds_12 : decode cX9_seeds 12 = .ok (.iconst 1, 1) := by decide +kernel
theorem dX9_seeds_13 : decode cX9_seeds 13 = .ok (.aload_n 0, 1) := by decide +kernel
theorem dX9_seeds_14 : decode cX9_seeds 14 = .ok (.getfield 111, 3) := by decide +kernel
theorem dX9_seeds_17 : decode cX9_seeds 17 = .ok (.ishl, 1) := by decide +kernel
theorem dX9_seeds_18 : decode cX9_seeds 18 = .ok (.iconst 1, 1) := by decide +kernel
theorem dX9_seeds_19 : decode cX9_seeds 19 = .ok (.isub, 1) := by decide +kernel
theorem dX9_seeds_20 : decode cX9_seeds 20 = .ok (.istore_n 2, 1) := by decide +kernel
theorem dX9_seeds_21 : decode cX9_seeds 21 = .ok (.iload_n 2, 1) := by decide +kernel
theorem dX9_seeds_22 : decode cX9_seeds 22 = .ok (.istore_n 3, 1) := by decide +kernel
theorem dX9_seeds_23 : decode cX9_seeds 23 = .ok (.iload_n 2, 1) := by decide +kernel
theorem dX9_seeds_24 : decode cX9_seeds 24 = .ok (.iconst 1, 1) := by decide +kernel
theorem dX9_seeds_25 : decode cX9_seeds 25 = .ok (.isub, 1) := by decide +kernel
theorem dX9_seeds_26 : decode cX9_seeds 26 = .ok (.istore 4, 2) := by decide +kernel
theorem dX9_seeds_28 : decode cX9_seeds 28 = .ok (.iload 4, 2) := by decide +kernel
theorem dX9_seeds_30 : decode cX9_seeds 30 = .ok (.ifCond .lt 38, 3) := by decide +kernel
theorem dX9_seeds_33 : decode cX9_seeds 33 = .ok (.iload 4, 2) := by decide +kernel
theorem dX9_seeds_35 : decode cX9_seeds 35 = .ok (.invokestatic 222, 3) := by decide +kernel
theorem dX9_seeds_38 : decode cX9_seeds 38 = .ok (.iload_n 3, 1) := by decide +kernel
theorem dX9_seeds_39 : decode cX9_seeds 39 = .ok (.invokestatic 222, 3) := by decide +kernel
theorem dX9_seeds_42 : decode cX9_seeds 42 = .ok (.if_icmp .gt 18, 3) := by decide +kernel
theorem dX9_seeds_45 : decode cX9_seeds 45 = .ok (.aload_n 0, 1) := by decide +kernel
theorem dX9_seeds_46 : decode cX9_seeds 46 = .ok (.iload 4, 2) := by decide +kernel
theorem dX9_seeds_48 : decode cX9_seeds 48 = .ok (.invokevirtual 225, 3) := by decide +kernel
theorem dX9_seeds_51 : decode cX9_seeds 51 = .ok (.iload_n 2, 1) := by decide +kernel
theorem dX9_seeds_52 : decode cX9_seeds 52 = .ok (.if_icmp .ne 8, 3) := by decide +kernel
theorem dX9_seeds_55 : decode cX9_seeds 55 = .ok (.iload 4, 2) := by decide +kernel
theorem dX9_seeds_57 : decode cX9_seeds 57 = .ok (.goto 4, 3) := by decide +kernel
theorem dX9_seeds_60 : decode cX9_seeds 60 = .ok (.iload_n 3, 1) := by decide +kernel
theorem dX9_seeds_61 : decode cX9_seeds 61 = .ok (.istore_n 3, 1) := by decide +kernel
theorem dX9_seeds_62 : decode cX9_seeds 62 = .ok (.iinc 4 (-1), 3) := by decide +kernel
theorem dX9_seeds_65 : decode cX9_seeds 65 = .ok (.goto (-37), 3) := by decide +kernel
theorem dX9_seeds_68 : decode cX9_seeds 68 = .ok (.iload_n 1, 1) := by decide +kernel
theorem dX9_seeds_69 : decode cX9_seeds 69 = .ok (.iconst 1, 1) := by decide +kernel
theorem dX9_seeds_70 : decode cX9_seeds 70 = .ok (.if_icmp .ne 7, 3) := by decide +kernel
theorem dX9_seeds_73 : decode cX9_seeds 73 = .ok (.iload_n 3, 1) := by decide +kernel
theorem dX9_seeds_74 : decode cX9_seeds 74 = .ok (.goto 7, 3) := by decide +kernel
theorem dX9_seeds_77 : decode cX9_seeds 77 = .ok (.iload_n 3, 1) := by decide +kernel
theorem dX9_seeds_78 : decode cX9_seeds 78 = .ok (.invokestatic 222, 3) := by decide +kernel
theorem dX9_seeds_81 : decode cX9_seeds 81 = .ok (.ireturn, 1) := by decide +kernel
theorem iX9_seeds_9 : ∀ w ∈ wsX90, w ∈ wsX9_seeds := fun w h => List.mem_cons_of_mem _ (List.mem_append_right _ h)
theorem fX9_seeds_111 : FL mX9_seeds 111 9 3 := ⟨_, _, _, rfl, by decide, iX9_seeds_9, by decide +kernel⟩
set_option maxRecDepth 20000 in
theorem ggX9_seeds_X9_in : GoodIn wsX9_seeds wsX9_in := goodIn_r _ [5] (by decide +kernel) (by decide +kernel)
set_option maxRecDepth 20000 in
theorem gX9_seeds_X9_in : GoodIn wsX9_seeds (va_wsS RX9 60 yX9_in wsX9_in) := goodIn_app (goodIn_of _ (by decide +kernel)) ggX9_seeds_X9_in
theorem wX9_seeds_60 : CWS mX9_seeds 60 mX9_in 3 := ⟨gX9_seeds_X9_in, ⟨_, rfl⟩, by decide +kernel, by decide +kernel, by decide +kernel⟩
set_option maxRecDepth 20000 in
theorem ggX9_seeds_X9_bitsIn : GoodIn wsX9_seeds wsX9_bitsIn := goodIn_r _ [8] (by decide +kernel) (by decide +kernel)
set_option maxRecDepth 20000 in
theorem gX9_seeds_X9_bitsIn : GoodIn wsX9_seeds (va_wsS RX9 222 yX9_bitsIn wsX9_bitsIn) := goodIn_app (goodIn_of _ (by decide +kernel)) ggX9_seeds_X9_bitsIn
theorem wX9_seeds_222 : CWS mX9_seeds 222 mX9_bitsIn 1 := ⟨gX9_seeds_X9_bitsIn, ⟨_, rfl⟩, by decide +kernel, by decide +kernel, by decide +kernel⟩
set_option maxRecDepth 20000 in
theorem ggX9_seeds_X9_spread : GoodIn wsX9_seeds wsX9_spread := goodIn_r _ [12, 1, 13, 14, 6, 7, 4, 8, 15, 16, 17, 18, 19, 20, 21, 22, 23, 24, 25, 26, 27, 28, 29, 30, 31, 32, 33, 34, 35, 36, 37, 38, 39] (by decide +kernel) (by decide +kernel)
set_option maxRecDepth 20000 in
theorem gX9_seeds_X9_spread : GoodIn wsX9_seeds (wsV RX9 225 RX9 yX9_spread wsX9_spread) := goodIn_app (goodIn_of _ (by decide +kernel)) ggX9_seeds_X9_spread
theorem wX9_seeds_225 : CWV mX9_seeds 225 mX9_spread 1 := ⟨gX9_seeds_X9_spread, ⟨_, rfl⟩, rfl, by decide +kernel, by decide +kernel, by decide +kernel⟩
abbrev mX9_shabby : mT := (yX9_shabby, RX9, cX9_shabby, 4, (some .int), wsX9_shabby)
abbrev rX9_shabby : Room := { frames := 2, cells := 0, slots := 0, locals := 45 }
theorem dX9_shabby_0 : decode cX9_shabby 0 = .ok (.iload_n 1, 1) := by decide +kernel
theorem dX9_shabby_1 : decode cX9_shabby 1 = .ok (.i2l, 1) := by decide +kernel
theorem dX9_shabby_2 : decode cX9_shabby 2 = .ok (.lconst 0, 1) := by decide +kernel
theorem dX9_shabby_3 : decode cX9_shabby 3 = .ok (.ldc2_w 208, 3) := by decide +kernel
theorem dX9_shabby_6 : decode cX9_shabby 6 = .ok (.invokestatic 60, 3) := by decide +kernel
theorem dX9_shabby_9 : decode cX9_shabby 9 = .ok (.ifCond .ne 5, 3) := by decide +kernel
theorem dX9_shabby_12 : decode cX9_shabby 12 = .ok (.iconst (-1), 1) := by decide +kernel
theorem dX9_shabby_13 : decode cX9_shabby 13 = .ok (.ireturn, 1) := by decide +kernel
theorem dX9_shabby_14 : decode cX9_shabby 14 = .ok (.aload_n 0, 1) := by decide +kernel
theorem dX9_shabby_15 : decode cX9_shabby 15 = .ok (.invokevirtual 164, 3) := by decide +kernel
theorem dX9_shabby_18 : decode cX9_shabby 18 = .ok (.ifCond .ne 6, 3) := by decide +kernel
theorem dX9_shabby_21 : decode cX9_shabby 21 = .ok (.bipush (-9), 2) := by decide +kernel
theorem dX9_shabby_23 : decode cX9_shabby 23 = .ok (.ireturn, 1) := by decide +kernel
theorem dX9_shabby_24 : decode cX9_shabby 24 = .ok (.iconst 0, 1) := by decide +kernel
theorem dX9_shabby_25 : decode cX9_shabby 25 = .ok (.istore_n 2, 1) := by decide +kernel
theorem dX9_shabby_26 : decode cX9_shabby 26 = .ok (.iload_n 2, 1) := by decide +kernel
theorem dX9_shabby_27 : decode cX9_shabby 27 = .ok (.bipush 80, 2) := by decide +kernel
theorem dX9_shabby_29 : decode cX9_shabby 29 = .ok (.if_icmp .ge 21, 3) := by decide +kernel
theorem dX9_shabby_32 : decode cX9_shabby 32 = .ok (.aload_n 0, 1) := by decide +kernel
theorem dX9_shabby_33 : decode cX9_shabby 33 = .ok (.getfield 52, 3) := by decide +kernel
theorem dX9_shabby_36 : decode cX9_shabby 36 = .ok (.iload_n 2, 1) := by decide +kernel
theorem dX9_shabby_37 : decode cX9_shabby 37 = .ok (.aload_n 0, 1) := by decide +kernel
theorem dX9_shabby_38 : decode cX9_shabby 38 = .ok (.getfield 26, 3) := by decide +kernel
theorem dX9_shabby_41 : decode cX9_shabby 41 = .ok (.iload_n 2, 1) := by decide +kernel
theorem dX9_shabby_42 : decode cX9_shabby 42 = .ok (.iaload, 1) := by decide +kernel
theorem dX9_shabby_43 : decode cX9_shabby 43 = .ok (.iastore, 1) := by decide +kernel
theorem dX9_shabby_44 : decode cX9_shabby 44 = .ok (.iinc 2 1, 3) := by decide +kernel
theorem dX9_shabby_47 : decode cX9_shabby 47 = .ok (.goto (-21), 3) := by decide +kernel
theorem dX9_shabby_50 : decode cX9_shabby 50 = .ok (.bipush (-9), 2) := by decide +kernel
theorem dX9_shabby_52 : decode cX9_shabby 52 = .ok (.istore_n 2, 1) := by decide +kernel
theorem dX9_shabby_53 : decode cX9_shabby 53 = .ok (.iconst 0, 1) := by decide +kernel
theorem dX9_shabby_54 : decode cX9_shabby 54 = .ok (.istore_n 3, 1) := by decide +kernel
theorem dX9_shabby_55 : decode cX9_shabby 55 = .ok (.iload_n 3, 1) := by decide +kernel
theorem dX9_shabby_56 : decode cX9_shabby 56 = .ok (.sipush 1000, 3) := by decide +kernel
theorem dX9_shabby_59 : decode cX9_shabby 59 = .ok (.if_icmp .gt 65, 3) := by decide +kernel
theorem dX9_shabby_62 : decode cX9_shabby 62 = .ok (.iload_n 2, 1) := by decide +kernel
theorem dX9_shabby_63 : decode cX9_shabby 63 = .ok (.bipush (-9), 2) := by decide +kernel
theorem dX9_shabby_65 : decode cX9_shabby 65 = .ok (.if_icmp .ne 59, 3) := by decide +kernel
theorem dX9_shabby_68 : decode cX9_shabby 68 = .ok (.iload_n 3, 1) := by decide +kernel
theorem dX9_shabby_69 : decode cX9_shabby 69 = .ok (.ifCond .le 26, 3) := by decide +kernel
theorem dX9_shabby_72 : decode cX9_shabby 72 = .ok (.aload_n 0, 1) := by decide +kernel
theorem dX9_shabby_73 : decode cX9_shabby 73 = .ok (.getfield 32, 3) := by decide +kernel
theorem dX9_shabby_76 : decode cX9_shabby 76 = .ok (.iconst 0, 1) := by decide +kernel
theorem dX9_shabby_77 : decode cX9_shabby 77 = .ok (.iaload, 1) := by decide +kernel
theorem dX9_shabby_78 : decode cX9_shabby 78 = .ok (.iload_n 3, 1) := by decide +kernel
theorem dX9_shabby_79 : decode cX9_shabby 79 = .ok (.iadd, 1) := by decide +kernel
theorem dX9_shabby_80 : decode cX9_shabby 80 = .ok (.aload_n 0, 1) := by decide +kernel
theorem dX9_shabby_81 : decode cX9_shabby 81 = .ok (.getfield 39, 3) := by decide +kernel
theorem dX9_shabby_84 : decode cX9_shabby 84 = .ok (.iconst 5, 1) := by decide +kernel
theorem dX9_shabby_85 : decode cX9_shabby 85 = .ok (.iaload, 1) := by decide +kernel
theorem dX9_shabby_86 : decode cX9_shabby 86 = .ok (.irem, 1) := by decide +kernel
theorem dX9_shabby_87 : decode cX9_shabby 87 = .ok (.ifCond .ne 8, 3) := by decide +kernel
theorem dX9_shabby_90 : decode cX9_shabby 90 = .ok (.aload_n 0, 1) := by decide +kernel
theorem dX9_shabby_91 : decode cX9_shabby 91 = .ok (.iconst 0, 1) := by decide +kernel
theorem dX9_shabby_92 : decode cX9_shabby 92 = .ok (.invokevirtual 201, 3) := by decide +kernel
theorem dX9_shabby_95 : decode cX9_shabby 95 = .ok (.bipush 10, 2) := by decide +kernel
theorem dX9_shabby_97 : decode cX9_shabby 97 = .ok (.aload_n 0, 1) := by decide +kernel
theorem dX9_shabby_98 : decode cX9_shabby 98 = .ok (.invokevirtual 205, 3) := by decide +kernel
theorem dX9_shabby_101 : decode cX9_shabby 101 = .ok (.imul, 1) := by decide +kernel
theorem dX9_shabby_102 : decode cX9_shabby 102 = .ok (.iload_n 1, 1) := by decide +kernel
theorem dX9_shabby_103 : decode cX9_shabby 103 = .ok (.aload_n 0, 1) := by decide +kernel
theorem dX9_shabby_104 : decode cX9_shabby 104 = .ok (.invokevirtual 164, 3) := by decide +kernel
theorem dX9_shabby_107 : decode cX9_shabby 107 = .ok (.imul, 1) := by decide +kernel
theorem dX9_shabby_108 : decode cX9_shabby 108 = .ok (.if_icmp .gt 7, 3) := by decide +kernel
theorem dX9_shabby_111 : decode cX9_shabby 111 = .ok (.iload_n 3, 1) := by decide +kernel
theorem dX9_shabby_112 : decode cX9_shabby 112 = .ok (.goto 5, 3) := by decide +kernel
theorem dX9_shabby_115 : decode cX9_shabby 115 = .ok (.bipush (-9), 2) := by decide +kernel
theorem dX9_shabby_117 : decode cX9_shabby 117 = .ok (.istore_n 2, 1) := by decide +kernel
theorem dX9_shabby_118 : decode cX9_shabby 118 = .ok (.iinc 3 1, 3) := by decide +kernel
theorem dX9_shabby_121 : decode cX9_shabby 121 = .ok (.goto (-66), 3) := by decide +kernel
theorem dX9_shabby_124 : decode cX9_shabby 124 = .ok (.iconst 0, 1) := by decide +kernel
theorem dX9_shabby_125 : decode cX9_shabby 125 = .ok (.istore_n 3, 1) := by decide +kernel
theorem dX9_shabby_126 : decode cX9_shabby 126 = .ok (.iload_n 3, 1) := by decide +kernel
theorem dX9_shabby_127 : decode cX9_shabby 127 = .ok (.bipush 80, 2) := by decide +kernel
theorem dX9_shabby_129 : decode cX9_shabby 129 = .ok (.if_icmp .ge 21, 3) := by decide +kernel
theorem dX9_shabby_132 : decode cX9_shabby 132 = .ok (.aload_n 0, 1) := by decide +kernel
theorem dX9_shabby_133 : decode cX9_shabby 133 = .ok (.getfield 26, 3) := by decide +kernel
theorem dX9_shabby_136 : decode cX9_shabby 136 = .ok (.iload_n 3, 1) := by decide +kernel
theorem dX9_shabby_137 : decode cX9_shabby 137 = .ok (.aload_n 0, 1) := by decide +kernel
theorem dX9_shabby_138 : decode cX9_shabby 138 = .ok (.getfield 52, 3) := by decide +kernel
theorem dX9_shabby_141 : decode cX9_shabby 141 = .ok (.iload_n 3, 1) := by decide +kernel
theorem dX9_shabby_142 : decode cX9_shabby 142 = .ok (.iaload, 1) := by decide +kernel
theorem dX9_shabby_143 : decode cX9_shabby 143 = .ok (.iastore, 1) := by decide +kernel
theorem dX9_shabby_144 : decode cX9_shabby 144 = .ok (.iinc 3 1, 3) := by decide +kernel
theorem dX9_shabby_147 : decode cX9_shabby 147 = .ok (.goto (-21), 3) := by decide +kernel
theorem dX9_shabby_150 : decode cX9_shabby 150 = .ok (.iload_n 2, 1) := by decide +kernel
theorem dX9_shabby_151 : decode cX9_shabby 151 = .ok (.ireturn, 1) := by decide +kernel
theorem iX9_shabby_9 : ∀ w ∈ wsX90, w ∈ wsX9_shabby := fun w h => List.mem_cons_of_mem _ (List.mem_append_right _ h)
theorem fX9_shabby_26 : FL mX9_shabby 26 9 13 := ⟨_, _, _, rfl, by decide, iX9_shabby_9, by decide +kernel⟩
theorem fX9_shabby_32 : FL mX9_shabby 32 9 15 := ⟨_, _, _, rfl, by decide, iX9_shabby_9, by decide +kernel⟩
theorem fX9_shabby_39 : FL mX9_shabby 39 9 17 := ⟨_, _, _, rfl, by decide, iX9_shabby_9, by decide +kernel⟩
theorem fX9_shabby_52 : FL mX9_shabby 52 9 22 := ⟨_, _, _, rfl, by decide, iX9_shabby_9, by decide +kernel⟩
set_option maxRecDepth 20000 in
theorem ggX9_shabby_X9_in : GoodIn wsX9_shabby wsX9_in := goodIn_r _ [9] (by decide +kernel) (by decide +kernel)
set_option maxRecDepth 20000 in
theorem gX9_shabby_X9_in : GoodIn wsX9_shabby (va_wsS RX9 60 yX9_in wsX9_in) := goodIn_app (goodIn_of _ (by decide +kernel)) ggX9_shabby_X9_in
theorem wX9_shabby_60 : CWS mX9_shabby 60 mX9_in 3 := ⟨gX9_shabby_X9_in, ⟨_, rfl⟩, by decide +kernel, by decide +kernel, by decide +kernel⟩
set_option maxRecDepth 20000 in
theorem ggX9_shabby_X9_allCoins : GoodIn wsX9_shabby wsX9_allCoins := goodIn_r _ [13, 14, 15, 16, 8, 17, 18, 3, 27, 28, 29, 30, 31, 32, 33, 34, 35, 36, 37, 38, 39, 40, 41, 42, 43, 44, 45, 46, 47, 48, 49, 50, 51] (by decide +kernel) (by decide +kernel)
set_option maxRecDepth 20000 in
theorem gX9_shabby_X9_allCoins : GoodIn wsX9_shabby (wsV RX9 164 RX9 yX9_allCoins wsX9_allCoins) := goodIn_app (goodIn_of _ (by decide +kernel)) ggX9_shabby_X9_allCoins
theorem wX9_shabby_164 : CWV mX9_shabby 164 mX9_allCoins 0 := ⟨gX9_shabby_X9_allCoins, ⟨_, rfl⟩, rfl, by decide +kernel, by decide +kernel, by decide +kernel⟩
set_option maxRecDepth 20000 in
theorem ggX9_shabby_X9_wear : GoodIn wsX9_shabby wsX9_wear := goodIn_r _ [22, 3, 27, 28, 29, 30, 31, 32, 33, 34, 35, 36, 37, 38, 39, 40, 41, 42, 43, 44, 45, 46, 47, 48, 49, 50, 51] (by decide +kernel) (by decide +kernel)
set_option maxRecDepth 20000 in
theorem gX9_shabby_X9_wear : GoodIn wsX9_shabby (wsV RX9 201 RX9 yX9_wear wsX9_wear) := goodIn_app (goodIn_of _ (by decide +kernel)) ggX9_shabby_X9_wear
theorem wX9_shabby_201 : CWV mX9_shabby 201 mX9_wear 1 := ⟨gX9_shabby_X9_wear, ⟨_, rfl⟩, rfl, by decide +kernel, by decide +kernel, by decide +kernel⟩
set_option maxRecDepth 20000 in
theorem ggX9_shabby_X9_there : GoodIn wsX9_shabby wsX9_there := goodIn_r _ [26, 14, 15, 16, 8, 17, 18, 3, 27, 28, 29, 30, 31, 32, 33, 34, 35, 36, 37, 38, 39, 40, 41, 42, 43, 44, 45, 46, 47, 48, 49, 50, 51] (by decide +kernel) (by decide +kernel)
set_option maxRecDepth 20000 in
theorem gX9_shabby_X9_there : GoodIn wsX9_shabby (wsV RX9 205 RX9 yX9_there wsX9_there) := goodIn_app (goodIn_of _ (by decide +kernel)) ggX9_shabby_X9_there
theorem wX9_shabby_205 : CWV mX9_shabby 205 mX9_there 0 := ⟨gX9_shabby_X9_there, ⟨_, rfl⟩, rfl, by decide +kernel, by decide +kernel, by decide +kernel⟩
/-- who comes in a round, of the first p -/
def moS (o : Nat → Int32) (s : Int32) : Nat → Int32
  | 0 => 0
  | p + 1 => if (s >>> (nI p &&& 31)) &&& 1 = 0 ∧ ¬ bsS s 8 < o p then moS o s p ||| (1 <<< (nI p &&& 31)) else moS o s p
/-- the set behind k rounds -/
def spI (o : Nat → Int32) (n : Nat) (s : Int32) : Nat → Int32
  | 0 => s
  | k + 1 => spI o n s k ||| moS o (spI o n s k) n
/-- seeds, as the reference finds them: j sets looked at, from E - 1 down -/
def sdS (F : Nat → Int32) (E : Nat) : Nat → Int32
  | 0 => nI E
  | j + 1 => if bsS (nI (E - 1 - j)) 8 ≤ bsS (sdS F E j) 8 ∧ F (E - 1 - j) = nI E then nI (E - 1 - j) else sdS F E j
/-- shabby, as the reference finds it -/
def shN (q : Int32) (yy wr : Nat) : Nat → Nat → (Nat → Int32) → Int32
  | 0, _, _ => -9
  | d + 1, y, g => if 10 * pGr (if 0 < y ∧ (yy + y) % wr = 0 then wearA g else g) ≤ q * pAll (if 0 < y ∧ (yy + y) % wr = 0 then wearA g else g) then nI y else shN q yy wr d (y + 1) (if 0 < y ∧ (yy + y) % wr = 0 then wearA g else g)
section
variable {Γ : gT} {l : Launch} {as : List Nat} {h : aH} {m : Nat} {tc : Int64} {r : Nat → Nat} {z : Nat → Int32} {n k lim : Nat} {f u c ya lw x o lo mt kp : Nat → Int32}
theorem n_labour_bad {p q : Int32} (hb : (q < 0 ∨ 6 < q) ∨ isP n p = false) (hM : hat as h m (mo tc r z)) (hn : z 3 = nI n) (hn8 : n ≤ 8) : Det Γ l mX9_labour rX9_labour [.ref m, .int q, .int p] as h (some (.int (-1))) h := by
  refine Con.of (by decide +kernel) rfl rfl (Nat.le_of_ble_eq_true rfl) ?_
  refine q_iload_n dX9_labour_0 rfl rfl ?_
  refine q_i2l dX9_labour_1 ?_
  refine q_lconst (v := 0) dX9_labour_2 rfl ?_
  refine q_ldc2 (v := 6) dX9_labour_3 (by decide +kernel) ?_
  refine q_callSd dX9_labour_6 wX9_labour_60 (n_in) rfl rfl (Nat.le_of_ble_eq_true rfl) ⟨⟨Nat.le_of_ble_eq_true rfl, Nat.le_of_ble_eq_true rfl⟩, Nat.le_of_ble_eq_true rfl, Nat.le_of_ble_eq_true rfl⟩ ?_
  refine q_if_eq 20 dX9_labour_9 (by decide) (fun cA => ?_) (fun cA => ?_)
  · refine q_iconst (v := (-1)) dX9_labour_20 rfl ?_
    exact q_iret dX9_labour_21 rfl (Nat.zero_le _) (Nat.zero_le _) (⟨rfl, rfl, rfl⟩)
  · refine q_aload_n dX9_labour_12 rfl rfl ?_
    refine q_iload_n dX9_labour_13 rfl rfl ?_
    refine q_callVd dX9_labour_14 wX9_labour_117 (n_isPerson hM hn hn8) (hM) ⟨_, _, rfl⟩ rfl rfl (Nat.le_of_ble_eq_true rfl) ⟨⟨Nat.le_of_ble_eq_true rfl, Nat.le_of_ble_eq_true rfl⟩, Nat.le_of_ble_eq_true rfl, Nat.le_of_ble_eq_true rfl⟩ ?_
    refine q_if_ne 22 dX9_labour_17 (by decide) (fun cB => ?_) (fun cB => ?_)
    · exact absurd hb (by rintro (e | e); exact cA (by rw [inB_no (a := 0) (b := 6) (by decide) (by decide) e]; rfl); exact cB (by rw [e]; rfl))
    · refine q_iconst (v := (-1)) dX9_labour_20 rfl ?_
      exact q_iret dX9_labour_21 rfl (Nat.zero_le _) (Nat.zero_le _) (⟨rfl, rfl, rfl⟩)
theorem n_labour {p j : Nat} (hp : p < n) (hn8 : n ≤ 8) (hj : j < 7) (hlim : lim ≤ 9) (hu0 : u 0 = nI lim) (hM : hat as h m (mo tc r z)) (hn : z 3 = nI n) (hf : hat as h (r 13) (aI Γ 240 f)) (hu : hat as h (r 17) (aI Γ 6 u)) (hx : hat as h (r 5) (aI Γ 16 x)) (ho : hat as h (r 7) (aI Γ 16 o)) : Det Γ l mX9_labour rX9_labour [.ref m, .int (nI j), .int (nI p)] as h (some (.int (lbA f u x o lim p j))) (hset h m (mo (mlT tc j) r z)) := by
  have hp8 : p < 8 := by omega
  have e1 := hat_ao hx hM
  have e2 := hat_ao ho hM
  generalize hS : sr (fun w => f (p * 10 + w)) (lim + 1) (10 - (lim + 1)) = bad
  have key : ∀ (d i : Nat) (v4 v5 : Int32) (ls : List (Nat × Value)), lim + 1 + i + d = 10 → v4 = sr (fun w => f (p * 10 + w)) (lim + 1) i → v5 = nI (lim + 1 + i) → lin ls [(0, .ref m), (1, .int (nI j)), (2, .int (nI p)), (3, .int (pCo f p)), (4, .int v4), (5, .int v5)] → V Γ l mX9_labour rX9_labour (Zm Γ rX9_labour (qD (some (.int (lbA f u x o lim p j))) as (hset h m (mo (mlT tc j) r z)))) 0 0 41 ls [] as h := by
    intro d
    induction d with
    | zero =>
      intro i v4 v5 ls hi hv4 hv5 hl
      have hi2 : i = 10 - (lim + 1) := by omega
      subst hi2
      rw [hS] at hv4
      subst hv4 hv5
      refine V.at ?_ hl
      have i10 : (10 : Int32) * nI p = nI (p * 10) := by rw [show (10 : Int32) = nI 10 from rfl, pk_mul, Nat.mul_comm]
      rcases (show j = 0 ∨ j = 1 ∨ j = 2 ∨ j = 3 ∨ j = 4 ∨ j = 5 ∨ j = 6 by omega) with rfl | rfl | rfl | rfl | rfl | rfl | rfl
      · skip
        refine q_iload dX9_labour_41 rfl ?_
        refine q_bipush (v := 10) dX9_labour_43 rfl ?_
        refine q_icmp_ge 71 dX9_labour_45 (by decide) (fun _ => ?_) (fun z => absurd (ge_c 10 rfl (by omega) (by omega)) z)
        refine q_iload_n dX9_labour_71 rfl rfl ?_
        refine q_aload_n dX9_labour_72 rfl rfl ?_
        refine q_get dX9_labour_73 fX9_labour_39 (hM) rfl ?_
        refine q_iconst (v := 1) dX9_labour_76 rfl ?_
        refine q_iald dX9_labour_77 (hu) (in_nI (k := 1) (by omega) (by omega)) ?_
        refine q_iload dX9_labour_78 rfl ?_
        refine q_imul dX9_labour_80 ?_
        refine q_iadd dX9_labour_81 ?_
        refine q_istore dX9_labour_82 (by decide) ?_
        refine q_iload_n dX9_labour_84 rfl rfl ?_
        refine q_aload_n dX9_labour_85 rfl rfl ?_
        refine q_get dX9_labour_86 fX9_labour_26 (hM) rfl ?_
        refine q_bipush (v := 10) dX9_labour_89 rfl ?_
        refine q_iload_n dX9_labour_91 rfl rfl ?_
        refine q_imul dX9_labour_92 ?_
        rw [i10]
        refine q_iald dX9_labour_93 (hf) (in_nI (show p * 10 < 240 by omega) (by omega)) ?_
        refine q_isub dX9_labour_94 ?_
        refine q_istore dX9_labour_95 (by decide) ?_
        refine q_iload_n dX9_labour_97 rfl rfl ?_
        refine q_tableIn 136 dX9_labour_98 (by decide) (by decide) rfl (by decide) ?_
        refine q_aload_n dX9_labour_136 rfl rfl ?_
        refine q_dup dX9_labour_137 rfl ?_
        refine q_get dX9_labour_138 fX9_labour_230 (hM) rfl ?_
        refine q_lconst (v := 1) dX9_labour_141 rfl ?_
        refine q_ladd dX9_labour_142 ?_
        refine q_put dX9_labour_143 pX9_labour_230 (hM) rfl rfl (Nat.le_of_ble_eq_true rfl) ?_
        refine q_iload_n dX9_labour_146 rfl rfl ?_
        exact q_iret dX9_labour_147 rfl (Nat.zero_le _) (Nat.zero_le _) (⟨rfl, rfl, rfl⟩)
      · skip
        refine q_iload dX9_labour_41 rfl ?_
        refine q_bipush (v := 10) dX9_labour_43 rfl ?_
        refine q_icmp_ge 71 dX9_labour_45 (by decide) (fun _ => ?_) (fun z => absurd (ge_c 10 rfl (by omega) (by omega)) z)
        refine q_iload_n dX9_labour_71 rfl rfl ?_
        refine q_aload_n dX9_labour_72 rfl rfl ?_
        refine q_get dX9_labour_73 fX9_labour_39 (hM) rfl ?_
        refine q_iconst (v := 1) dX9_labour_76 rfl ?_
        refine q_iald dX9_labour_77 (hu) (in_nI (k := 1) (by omega) (by omega)) ?_
        refine q_iload dX9_labour_78 rfl ?_
        refine q_imul dX9_labour_80 ?_
        refine q_iadd dX9_labour_81 ?_
        refine q_istore dX9_labour_82 (by decide) ?_
        refine q_iload_n dX9_labour_84 rfl rfl ?_
        refine q_aload_n dX9_labour_85 rfl rfl ?_
        refine q_get dX9_labour_86 fX9_labour_26 (hM) rfl ?_
        refine q_bipush (v := 10) dX9_labour_89 rfl ?_
        refine q_iload_n dX9_labour_91 rfl rfl ?_
        refine q_imul dX9_labour_92 ?_
        rw [i10]
        refine q_iald dX9_labour_93 (hf) (in_nI (show p * 10 < 240 by omega) (by omega)) ?_
        refine q_isub dX9_labour_94 ?_
        refine q_istore dX9_labour_95 (by decide) ?_
        refine q_iload_n dX9_labour_97 rfl rfl ?_
        refine q_tableIn 148 dX9_labour_98 (by decide) (by decide) rfl (by decide) ?_
        refine q_aload_n dX9_labour_148 rfl rfl ?_
        refine q_dup dX9_labour_149 rfl ?_
        refine q_get dX9_labour_150 fX9_labour_230 (hM) rfl ?_
        refine q_ldc2 (v := 11) dX9_labour_153 (by decide +kernel) ?_
        refine q_ladd dX9_labour_156 ?_
        refine q_put dX9_labour_157 pX9_labour_230 (hM) rfl rfl (Nat.le_of_ble_eq_true rfl) ?_
        refine q_iload_n dX9_labour_160 rfl rfl ?_
        refine q_iconst (v := 1) dX9_labour_161 rfl ?_
        refine q_iadd dX9_labour_162 ?_
        exact q_iret dX9_labour_163 rfl (Nat.zero_le _) (Nat.zero_le _) (⟨rfl, rfl, rfl⟩)
      · skip
        refine q_iload dX9_labour_41 rfl ?_
        refine q_bipush (v := 10) dX9_labour_43 rfl ?_
        refine q_icmp_ge 71 dX9_labour_45 (by decide) (fun _ => ?_) (fun z => absurd (ge_c 10 rfl (by omega) (by omega)) z)
        refine q_iload_n dX9_labour_71 rfl rfl ?_
        refine q_aload_n dX9_labour_72 rfl rfl ?_
        refine q_get dX9_labour_73 fX9_labour_39 (hM) rfl ?_
        refine q_iconst (v := 1) dX9_labour_76 rfl ?_
        refine q_iald dX9_labour_77 (hu) (in_nI (k := 1) (by omega) (by omega)) ?_
        refine q_iload dX9_labour_78 rfl ?_
        refine q_imul dX9_labour_80 ?_
        refine q_iadd dX9_labour_81 ?_
        refine q_istore dX9_labour_82 (by decide) ?_
        refine q_iload_n dX9_labour_84 rfl rfl ?_
        refine q_aload_n dX9_labour_85 rfl rfl ?_
        refine q_get dX9_labour_86 fX9_labour_26 (hM) rfl ?_
        refine q_bipush (v := 10) dX9_labour_89 rfl ?_
        refine q_iload_n dX9_labour_91 rfl rfl ?_
        refine q_imul dX9_labour_92 ?_
        rw [i10]
        refine q_iald dX9_labour_93 (hf) (in_nI (show p * 10 < 240 by omega) (by omega)) ?_
        refine q_isub dX9_labour_94 ?_
        refine q_istore dX9_labour_95 (by decide) ?_
        refine q_iload_n dX9_labour_97 rfl rfl ?_
        refine q_tableIn 164 dX9_labour_98 (by decide) (by decide) rfl (by decide) ?_
        refine q_aload_n dX9_labour_164 rfl rfl ?_
        refine q_dup dX9_labour_165 rfl ?_
        refine q_get dX9_labour_166 fX9_labour_230 (hM) rfl ?_
        refine q_ldc2 (v := 101) dX9_labour_169 (by decide +kernel) ?_
        refine q_ladd dX9_labour_172 ?_
        refine q_put dX9_labour_173 pX9_labour_230 (hM) rfl rfl (Nat.le_of_ble_eq_true rfl) ?_
        refine q_iload dX9_labour_176 rfl ?_
        exact q_iret dX9_labour_178 rfl (Nat.zero_le _) (Nat.zero_le _) (⟨by rw [← hS]; rfl, rfl, rfl⟩)
      · skip
        refine q_iload dX9_labour_41 rfl ?_
        refine q_bipush (v := 10) dX9_labour_43 rfl ?_
        refine q_icmp_ge 71 dX9_labour_45 (by decide) (fun _ => ?_) (fun z => absurd (ge_c 10 rfl (by omega) (by omega)) z)
        refine q_iload_n dX9_labour_71 rfl rfl ?_
        refine q_aload_n dX9_labour_72 rfl rfl ?_
        refine q_get dX9_labour_73 fX9_labour_39 (hM) rfl ?_
        refine q_iconst (v := 1) dX9_labour_76 rfl ?_
        refine q_iald dX9_labour_77 (hu) (in_nI (k := 1) (by omega) (by omega)) ?_
        refine q_iload dX9_labour_78 rfl ?_
        refine q_imul dX9_labour_80 ?_
        refine q_iadd dX9_labour_81 ?_
        refine q_istore dX9_labour_82 (by decide) ?_
        refine q_iload_n dX9_labour_84 rfl rfl ?_
        refine q_aload_n dX9_labour_85 rfl rfl ?_
        refine q_get dX9_labour_86 fX9_labour_26 (hM) rfl ?_
        refine q_bipush (v := 10) dX9_labour_89 rfl ?_
        refine q_iload_n dX9_labour_91 rfl rfl ?_
        refine q_imul dX9_labour_92 ?_
        rw [i10]
        refine q_iald dX9_labour_93 (hf) (in_nI (show p * 10 < 240 by omega) (by omega)) ?_
        refine q_isub dX9_labour_94 ?_
        refine q_istore dX9_labour_95 (by decide) ?_
        refine q_iload_n dX9_labour_97 rfl rfl ?_
        refine q_tableIn 179 dX9_labour_98 (by decide) (by decide) rfl (by decide) ?_
        refine q_aload_n dX9_labour_179 rfl rfl ?_
        refine q_dup dX9_labour_180 rfl ?_
        refine q_get dX9_labour_181 fX9_labour_230 (hM) rfl ?_
        refine q_ldc2 (v := 1101) dX9_labour_184 (by decide +kernel) ?_
        refine q_ladd dX9_labour_187 ?_
        refine q_put dX9_labour_188 pX9_labour_230 (hM) rfl rfl (Nat.le_of_ble_eq_true rfl) ?_
        refine q_aload_n dX9_labour_191 rfl rfl ?_
        refine q_get dX9_labour_192 fX9_labour_17 (hat_set hM) rfl ?_
        refine q_iload_n dX9_labour_195 rfl rfl ?_
        refine q_iald dX9_labour_196 (hat_ne hx e1) (in_nI (show p < 16 by omega) (by omega)) ?_
        refine q_iload dX9_labour_197 rfl ?_
        refine q_imul dX9_labour_199 ?_
        refine q_bipush (v := 10) dX9_labour_200 rfl ?_
        refine q_idiv dX9_labour_202 ((by decide)) ?_
        exact q_iret dX9_labour_203 rfl (Nat.zero_le _) (Nat.zero_le _) (⟨by rw [← hS, nI_clamp (by omega)]; rfl, rfl, rfl⟩)
      · skip
        refine q_iload dX9_labour_41 rfl ?_
        refine q_bipush (v := 10) dX9_labour_43 rfl ?_
        refine q_icmp_ge 71 dX9_labour_45 (by decide) (fun _ => ?_) (fun z => absurd (ge_c 10 rfl (by omega) (by omega)) z)
        refine q_iload_n dX9_labour_71 rfl rfl ?_
        refine q_aload_n dX9_labour_72 rfl rfl ?_
        refine q_get dX9_labour_73 fX9_labour_39 (hM) rfl ?_
        refine q_iconst (v := 1) dX9_labour_76 rfl ?_
        refine q_iald dX9_labour_77 (hu) (in_nI (k := 1) (by omega) (by omega)) ?_
        refine q_iload dX9_labour_78 rfl ?_
        refine q_imul dX9_labour_80 ?_
        refine q_iadd dX9_labour_81 ?_
        refine q_istore dX9_labour_82 (by decide) ?_
        refine q_iload_n dX9_labour_84 rfl rfl ?_
        refine q_aload_n dX9_labour_85 rfl rfl ?_
        refine q_get dX9_labour_86 fX9_labour_26 (hM) rfl ?_
        refine q_bipush (v := 10) dX9_labour_89 rfl ?_
        refine q_iload_n dX9_labour_91 rfl rfl ?_
        refine q_imul dX9_labour_92 ?_
        rw [i10]
        refine q_iald dX9_labour_93 (hf) (in_nI (show p * 10 < 240 by omega) (by omega)) ?_
        refine q_isub dX9_labour_94 ?_
        refine q_istore dX9_labour_95 (by decide) ?_
        refine q_iload_n dX9_labour_97 rfl rfl ?_
        refine q_tableIn 204 dX9_labour_98 (by decide) (by decide) rfl (by decide) ?_
        refine q_aload_n dX9_labour_204 rfl rfl ?_
        refine q_dup dX9_labour_205 rfl ?_
        refine q_get dX9_labour_206 fX9_labour_230 (hM) rfl ?_
        refine q_ldc2 (v := 10001) dX9_labour_209 (by decide +kernel) ?_
        refine q_ladd dX9_labour_212 ?_
        refine q_put dX9_labour_213 pX9_labour_230 (hM) rfl rfl (Nat.le_of_ble_eq_true rfl) ?_
        refine q_iload dX9_labour_216 rfl ?_
        exact q_iret dX9_labour_218 rfl (Nat.zero_le _) (Nat.zero_le _) (⟨by rw [nI_clamp (by omega)]; rfl, rfl, rfl⟩)
      · skip
        refine q_iload dX9_labour_41 rfl ?_
        refine q_bipush (v := 10) dX9_labour_43 rfl ?_
        refine q_icmp_ge 71 dX9_labour_45 (by decide) (fun _ => ?_) (fun z => absurd (ge_c 10 rfl (by omega) (by omega)) z)
        refine q_iload_n dX9_labour_71 rfl rfl ?_
        refine q_aload_n dX9_labour_72 rfl rfl ?_
        refine q_get dX9_labour_73 fX9_labour_39 (hM) rfl ?_
        refine q_iconst (v := 1) dX9_labour_76 rfl ?_
        refine q_iald dX9_labour_77 (hu) (in_nI (k := 1) (by omega) (by omega)) ?_
        refine q_iload dX9_labour_78 rfl ?_
        refine q_imul dX9_labour_80 ?_
        refine q_iadd dX9_labour_81 ?_
        refine q_istore dX9_labour_82 (by decide) ?_
        refine q_iload_n dX9_labour_84 rfl rfl ?_
        refine q_aload_n dX9_labour_85 rfl rfl ?_
        refine q_get dX9_labour_86 fX9_labour_26 (hM) rfl ?_
        refine q_bipush (v := 10) dX9_labour_89 rfl ?_
        refine q_iload_n dX9_labour_91 rfl rfl ?_
        refine q_imul dX9_labour_92 ?_
        rw [i10]
        refine q_iald dX9_labour_93 (hf) (in_nI (show p * 10 < 240 by omega) (by omega)) ?_
        refine q_isub dX9_labour_94 ?_
        refine q_istore dX9_labour_95 (by decide) ?_
        refine q_iload_n dX9_labour_97 rfl rfl ?_
        refine q_tableIn 219 dX9_labour_98 (by decide) (by decide) rfl (by decide) ?_
        refine q_aload_n dX9_labour_219 rfl rfl ?_
        refine q_dup dX9_labour_220 rfl ?_
        refine q_get dX9_labour_221 fX9_labour_230 (hM) rfl ?_
        refine q_ldc2 (v := 110001) dX9_labour_224 (by decide +kernel) ?_
        refine q_ladd dX9_labour_227 ?_
        refine q_put dX9_labour_228 pX9_labour_230 (hM) rfl rfl (Nat.le_of_ble_eq_true rfl) ?_
        refine q_iconst (v := 2) dX9_labour_231 rfl ?_
        refine q_iload dX9_labour_232 rfl ?_
        refine q_imul dX9_labour_234 ?_
        exact q_iret dX9_labour_235 rfl (Nat.zero_le _) (Nat.zero_le _) (⟨by rw [nI_clamp (by omega)]; rfl, rfl, rfl⟩)
      · skip
        refine q_iload dX9_labour_41 rfl ?_
        refine q_bipush (v := 10) dX9_labour_43 rfl ?_
        refine q_icmp_ge 71 dX9_labour_45 (by decide) (fun _ => ?_) (fun z => absurd (ge_c 10 rfl (by omega) (by omega)) z)
        refine q_iload_n dX9_labour_71 rfl rfl ?_
        refine q_aload_n dX9_labour_72 rfl rfl ?_
        refine q_get dX9_labour_73 fX9_labour_39 (hM) rfl ?_
        refine q_iconst (v := 1) dX9_labour_76 rfl ?_
        refine q_iald dX9_labour_77 (hu) (in_nI (k := 1) (by omega) (by omega)) ?_
        refine q_iload dX9_labour_78 rfl ?_
        refine q_imul dX9_labour_80 ?_
        refine q_iadd dX9_labour_81 ?_
        refine q_istore dX9_labour_82 (by decide) ?_
        refine q_iload_n dX9_labour_84 rfl rfl ?_
        refine q_aload_n dX9_labour_85 rfl rfl ?_
        refine q_get dX9_labour_86 fX9_labour_26 (hM) rfl ?_
        refine q_bipush (v := 10) dX9_labour_89 rfl ?_
        refine q_iload_n dX9_labour_91 rfl rfl ?_
        refine q_imul dX9_labour_92 ?_
        rw [i10]
        refine q_iald dX9_labour_93 (hf) (in_nI (show p * 10 < 240 by omega) (by omega)) ?_
        refine q_isub dX9_labour_94 ?_
        refine q_istore dX9_labour_95 (by decide) ?_
        refine q_iload_n dX9_labour_97 rfl rfl ?_
        refine q_tableOut 236 dX9_labour_98 (Or.inr (by decide)) (by decide) ?_
        refine q_aload_n dX9_labour_236 rfl rfl ?_
        refine q_dup dX9_labour_237 rfl ?_
        refine q_get dX9_labour_238 fX9_labour_230 (hM) rfl ?_
        refine q_ldc2 (v := 1000001) dX9_labour_241 (by decide +kernel) ?_
        refine q_ladd dX9_labour_244 ?_
        refine q_put dX9_labour_245 pX9_labour_230 (hM) rfl rfl (Nat.le_of_ble_eq_true rfl) ?_
        refine q_iload_n dX9_labour_248 rfl rfl ?_
        refine q_aload_n dX9_labour_249 rfl rfl ?_
        refine q_get dX9_labour_250 fX9_labour_23 (hat_set hM) rfl ?_
        refine q_iload_n dX9_labour_253 rfl rfl ?_
        refine q_iald dX9_labour_254 (hat_ne ho e2) (in_nI (show p < 16 by omega) (by omega)) ?_
        refine q_iadd dX9_labour_255 ?_
        exact q_iret dX9_labour_256 rfl (Nat.zero_le _) (Nat.zero_le _) (⟨by rw [nI_clamp (by omega)]; rfl, rfl, rfl⟩)
    | succ d ih =>
      intro i v4 v5 ls hi hv4 hv5 hl
      subst hv4 hv5
      refine V.at ?_ hl
      refine q_iload dX9_labour_41 rfl ?_
      refine q_bipush (v := 10) dX9_labour_43 rfl ?_
      refine q_icmp_ge 71 dX9_labour_45 (by decide) (fun z => absurd z (lt_c 10 rfl (by omega) (by omega))) (fun _ => ?_)
      refine q_iload dX9_labour_48 rfl ?_
      refine q_aload_n dX9_labour_50 rfl rfl ?_
      refine q_get dX9_labour_51 fX9_labour_26 (hM) rfl ?_
      refine q_bipush (v := 10) dX9_labour_54 rfl ?_
      refine q_iload_n dX9_labour_56 rfl rfl ?_
      refine q_imul dX9_labour_57 ?_
      refine q_iload dX9_labour_58 rfl ?_
      refine q_iadd dX9_labour_60 ?_
      refine q_iald dX9_labour_61 (hf) (inM hp8 (show lim + 1 + i < 10 by omega)) ?_
      refine q_iadd dX9_labour_62 ?_
      refine q_istore dX9_labour_63 (by decide) ?_
      refine q_iinc1 dX9_labour_65 rfl (by decide) ?_
      refine q_goto 41 dX9_labour_68 (by decide) ?_
      exact ih (i + 1) _ _ _ (by omega) (by rw [clM hp8 (by omega)]; rfl) (nI_s (lim + 1 + i)) ⟨rfl, rfl, rfl, rfl, rfl, rfl, trivial⟩
  refine Con.of (by decide +kernel) rfl rfl (Nat.le_of_ble_eq_true rfl) ?_
  refine q_iload_n dX9_labour_0 rfl rfl ?_
  refine q_i2l dX9_labour_1 ?_
  refine q_lconst (v := 0) dX9_labour_2 rfl ?_
  refine q_ldc2 (v := 6) dX9_labour_3 (by decide +kernel) ?_
  refine q_callSd dX9_labour_6 wX9_labour_60 (n_in) rfl rfl (Nat.le_of_ble_eq_true rfl) ⟨⟨Nat.le_of_ble_eq_true rfl, Nat.le_of_ble_eq_true rfl⟩, Nat.le_of_ble_eq_true rfl, Nat.le_of_ble_eq_true rfl⟩ ?_
  refine q_if_eq 20 dX9_labour_9 (by decide) (fun z => absurd z (by rw [inB_nI (a := 0) (b := 6) (by decide) (by decide) (by omega) (by omega) (by omega)]; decide)) (fun _ => ?_)
  refine q_aload_n dX9_labour_12 rfl rfl ?_
  refine q_iload_n dX9_labour_13 rfl rfl ?_
  refine q_callVd dX9_labour_14 wX9_labour_117 (n_isPerson hM hn hn8) (hM) ⟨_, _, rfl⟩ rfl rfl (Nat.le_of_ble_eq_true rfl) ⟨⟨Nat.le_of_ble_eq_true rfl, Nat.le_of_ble_eq_true rfl⟩, Nat.le_of_ble_eq_true rfl, Nat.le_of_ble_eq_true rfl⟩ ?_
  refine q_if_ne 22 dX9_labour_17 (by decide) (fun _ => ?_) (fun z => absurd z (by rw [isP_nI hp hn8]; decide))
  refine q_aload_n dX9_labour_22 rfl rfl ?_
  refine q_iload_n dX9_labour_23 rfl rfl ?_
  refine q_callVd dX9_labour_24 wX9_labour_121 (n_coinsOf hp8 hM hf) (hM) ⟨_, _, rfl⟩ rfl rfl (Nat.le_of_ble_eq_true rfl) ⟨⟨Nat.le_of_ble_eq_true rfl, Nat.le_of_ble_eq_true rfl⟩, Nat.le_of_ble_eq_true rfl, Nat.le_of_ble_eq_true rfl⟩ ?_
  refine q_istore_n dX9_labour_27 rfl (by decide) ?_
  refine q_iconst (v := 0) dX9_labour_28 rfl ?_
  refine q_istore dX9_labour_29 (by decide) ?_
  refine q_aload_n dX9_labour_31 rfl rfl ?_
  refine q_get dX9_labour_32 fX9_labour_39 (hM) rfl ?_
  refine q_iconst (v := 0) dX9_labour_35 rfl ?_
  refine q_iald dX9_labour_36 (hu) (in_nI (k := 0) (by omega) (by omega)) ?_
  refine q_iconst (v := 1) dX9_labour_37 rfl ?_
  refine q_iadd dX9_labour_38 ?_
  refine q_istore dX9_labour_39 (by decide) ?_
  exact key (10 - (lim + 1)) 0 _ _ _ (by omega) rfl (by rw [show u (0 : Int32).toNatClampNeg = nI lim from hu0]; exact nI_s lim) ⟨rfl, rfl, rfl, rfl, rfl, rfl, trivial⟩
theorem n_spread {s : Int32} {d : Nat} (hn8 : n ≤ 8) (hM : hat as h m (mo tc r z)) (hn : z 3 = nI n) (ho : hat as h (r 7) (aI Γ 16 o)) (hd : moS o (spI o n (s &&& evI n) d) n = 0) (hne : ∀ k, k < d → ¬ moS o (spI o n (s &&& evI n) k) n = 0) : Det Γ l mX9_spread rX9_spread [.ref m, .int s] as h (some (.int (spI o n (s &&& evI n) d))) (hset h m (mo tc r (upd z 24 (nI d)))) := by
  have e1 := hat_ao ho hM
  generalize hS0 : s &&& evI n = s0 at hd hne ⊢
  have xM : ∀ v : Int32, hat as (hset h m (mo tc r (upd z 24 v))) m (mo tc r (upd z 24 v)) := fun v => hat_set hM
  have xo : ∀ v : Int32, hat as (hset h m (mo tc r (upd z 24 v))) (r 7) (aI Γ 16 o) := fun v => hat_ne ho e1
  have h3 : ∀ v : Int32, upd z 24 v 3 = nI n := fun v => hn
  have inner : ∀ (S v24 : Int32) (Z : zT) (K : ∀ v4 : Int32, V Γ l mX9_spread rX9_spread Z 0 0 76 [(0, .ref m), (2, .int S), (3, .int (moS o S n)), (4, .int v4)] [] as (hset h m (mo tc r (upd z 24 v24)))) (c p : Nat) (v3 v4 : Int32) (ls : List (Nat × Value)), p + c = n → v3 = moS o S p → v4 = nI p → lin ls [(0, .ref m), (2, .int S), (3, .int v3), (4, .int v4)] → V Γ l mX9_spread rX9_spread Z 0 0 27 ls [] as (hset h m (mo tc r (upd z 24 v24))) := by
    intro S v24 Z K c
    induction c with
    | zero =>
      intro p v3 v4 ls hp hv3 hv4 hl
      have hpn : p = n := by omega
      subst hpn hv3 hv4
      refine V.at ?_ hl
      refine q_iload dX9_spread_27 rfl ?_
      refine q_aload_n dX9_spread_29 rfl rfl ?_
      refine q_get dX9_spread_30 fX9_spread_111 (xM _) rfl ?_
      refine q_icmp_ge 76 dX9_spread_33 (by decide) (fun _ => ?_) (fun z => absurd (by rw [h3]; exact Int32.le_refl _) z)
      exact K _
    | succ c ih =>
      intro p v3 v4 ls hp hv3 hv4 hl
      subst hv3 hv4
      refine V.at ?_ hl
      have st : ∀ q : Int32, moS o S p ||| q = moS o S (p + 1) → V Γ l mX9_spread rX9_spread Z 0 0 68 [(0, .ref m), (2, .int S), (4, .int (nI p))] [.int q, .int (moS o S p)] as (hset h m (mo tc r (upd z 24 v24))) := by
        intro q hq
        refine q_ior dX9_spread_68 ?_
        refine q_istore_n dX9_spread_69 rfl (by decide) ?_
        refine q_iinc1 dX9_spread_70 rfl (by decide) ?_
        refine q_goto 27 dX9_spread_73 (by decide) ?_
        exact ih (p + 1) _ _ _ (by omega) hq (nI_s p) ⟨rfl, rfl, rfl, rfl, trivial⟩
      refine q_iload dX9_spread_27 rfl ?_
      refine q_aload_n dX9_spread_29 rfl rfl ?_
      refine q_get dX9_spread_30 fX9_spread_111 (xM _) rfl ?_
      refine q_icmp_ge 76 dX9_spread_33 (by decide) (fun z => absurd z (by rw [h3]; exact nI_ge (by omega) (by omega))) (fun _ => ?_)
      refine q_iload_n dX9_spread_36 rfl rfl ?_
      refine q_iload_n dX9_spread_37 rfl rfl ?_
      refine q_iload dX9_spread_38 rfl ?_
      refine q_ishr dX9_spread_40 ?_
      refine q_iconst (v := 1) dX9_spread_41 rfl ?_
      refine q_iand dX9_spread_42 ?_
      refine q_if_ne 67 dX9_spread_43 (by decide) (fun cA => ?_) (fun cA => ?_)
      · refine q_iconst (v := 0) dX9_spread_67 rfl ?_
        refine V.at (st 0 ?_) ⟨rfl, rfl, rfl, trivial⟩
        rw [Int32.or_zero]
        simp only [moS]
        rw [if_neg]
        rintro ⟨q1, q2⟩
        first | exact q2 cB | exact cA q1
      · refine q_iload_n dX9_spread_46 rfl rfl ?_
        refine q_callSd dX9_spread_47 wX9_spread_222 (n_bitsIn) rfl rfl (Nat.le_of_ble_eq_true rfl) ⟨⟨Nat.le_of_ble_eq_true rfl, Nat.le_of_ble_eq_true rfl⟩, Nat.le_of_ble_eq_true rfl, Nat.le_of_ble_eq_true rfl⟩ ?_
        refine q_aload_n dX9_spread_50 rfl rfl ?_
        refine q_get dX9_spread_51 fX9_spread_23 (xM _) rfl ?_
        refine q_iload dX9_spread_54 rfl ?_
        refine q_iald dX9_spread_56 (xo _) (in_nI (show p < 16 by omega) (by omega)) ?_
        rw [nI_clamp (by omega)]
        refine q_icmp_lt 67 dX9_spread_57 (by decide) (fun cB => ?_) (fun cB => ?_)
        · refine q_iconst (v := 0) dX9_spread_67 rfl ?_
          refine V.at (st 0 ?_) ⟨rfl, rfl, rfl, trivial⟩
          rw [Int32.or_zero]
          simp only [moS]
          rw [if_neg]
          rintro ⟨q1, q2⟩
          first | exact q2 cB | exact cA q1
        · refine q_iconst (v := 1) dX9_spread_60 rfl ?_
          refine q_iload dX9_spread_61 rfl ?_
          refine q_ishl dX9_spread_63 ?_
          refine q_goto 68 dX9_spread_64 (by decide) ?_
          refine V.at (st _ ?_) ⟨rfl, rfl, rfl, trivial⟩
          simp only [moS]
          rw [if_pos ⟨cA, cB⟩]
  have key : ∀ (j i : Nat) (v2 v3 : Int32) (ls : List (Nat × Value)) (h' : aH), i + j = d → v2 = spI o n s0 i → ¬ v3 = 0 → h' = hset h m (mo tc r (upd z 24 (nI i))) → lin ls [(0, .ref m), (2, .int v2), (3, .int v3)] → V Γ l mX9_spread rX9_spread (Zm Γ rX9_spread (qD (some (.int (spI o n s0 d))) as (hset h m (mo tc r (upd z 24 (nI d)))))) 0 0 18 ls [] as h' := by
    intro j
    induction j with
    | zero =>
      intro i v2 v3 ls h' hi hv2 hv3 hh hl
      have hid : i = d := by omega
      subst hid hv2 hh
      refine V.at ?_ hl
      refine q_iload_n dX9_spread_18 rfl rfl ?_
      refine q_if_eq 101 dX9_spread_19 (by decide) (fun z => absurd z (hv3)) (fun _ => ?_)
      refine q_iconst (v := 0) dX9_spread_22 rfl ?_
      refine q_istore_n dX9_spread_23 rfl (by decide) ?_
      refine q_iconst (v := 0) dX9_spread_24 rfl ?_
      refine q_istore dX9_spread_25 (by decide) ?_
      refine inner (spI o n s0 i) (nI i) _ (fun v4 => ?_) n 0 _ _ _ (by omega) rfl rfl ⟨rfl, rfl, rfl, rfl, trivial⟩
      refine q_aload_n dX9_spread_76 rfl rfl ?_
      refine q_dup dX9_spread_77 rfl ?_
      refine q_get dX9_spread_78 fX9_spread_219 (xM _) rfl ?_
      refine q_iload_n dX9_spread_81 rfl rfl ?_
      refine q_if_ne 89 dX9_spread_82 (by decide) (fun z => absurd (hd) z) (fun _ => ?_)
      refine q_iconst (v := 0) dX9_spread_85 rfl ?_
      refine q_goto 90 dX9_spread_86 (by decide) ?_
      refine q_iadd dX9_spread_90 ?_
      refine q_put dX9_spread_91 pX9_spread_219 (xM _) rfl rfl (Nat.le_of_ble_eq_true rfl) ?_
      refine V.hp (h' := hset h m (mo tc r (upd z 24 (nI i)))) ?_ (by rw [hset_hset]; show hset h m (mo tc r (upd (upd z 24 (nI i)) 24 (nI i + 0))) = _; rw [upd_upd, Int32.add_zero])
      refine q_iload_n dX9_spread_94 rfl rfl ?_
      refine q_iload_n dX9_spread_95 rfl rfl ?_
      refine q_ior dX9_spread_96 ?_
      refine q_istore_n dX9_spread_97 rfl (by decide) ?_
      refine q_goto 18 dX9_spread_98 (by decide) ?_
      refine q_iload_n dX9_spread_18 rfl rfl ?_
      refine q_if_eq 101 dX9_spread_19 (by decide) (fun _ => ?_) (fun q => absurd hd q)
      refine q_iload_n dX9_spread_101 rfl rfl ?_
      exact q_iret dX9_spread_102 rfl (Nat.zero_le _) (Nat.zero_le _) ⟨by rw [hd, Int32.or_zero], rfl, rfl⟩
    | succ j ih =>
      intro i v2 v3 ls h' hi hv2 hv3 hh hl
      subst hv2 hh
      have hmi := hne i (by omega)
      refine V.at ?_ hl
      refine q_iload_n dX9_spread_18 rfl rfl ?_
      refine q_if_eq 101 dX9_spread_19 (by decide) (fun z => absurd z (hv3)) (fun _ => ?_)
      refine q_iconst (v := 0) dX9_spread_22 rfl ?_
      refine q_istore_n dX9_spread_23 rfl (by decide) ?_
      refine q_iconst (v := 0) dX9_spread_24 rfl ?_
      refine q_istore dX9_spread_25 (by decide) ?_
      refine inner (spI o n s0 i) (nI i) _ (fun v4 => ?_) n 0 _ _ _ (by omega) rfl rfl ⟨rfl, rfl, rfl, rfl, trivial⟩
      refine q_aload_n dX9_spread_76 rfl rfl ?_
      refine q_dup dX9_spread_77 rfl ?_
      refine q_get dX9_spread_78 fX9_spread_219 (xM _) rfl ?_
      refine q_iload_n dX9_spread_81 rfl rfl ?_
      refine q_if_ne 89 dX9_spread_82 (by decide) (fun _ => ?_) (fun z => absurd z (hmi))
      refine q_iconst (v := 1) dX9_spread_89 rfl ?_
      refine q_iadd dX9_spread_90 ?_
      refine q_put dX9_spread_91 pX9_spread_219 (xM _) rfl rfl (Nat.le_of_ble_eq_true rfl) ?_
      refine V.hp (h' := hset h m (mo tc r (upd z 24 (nI (i + 1))))) ?_ (by rw [hset_hset]; show hset h m (mo tc r (upd (upd z 24 (nI i)) 24 (nI i + 1))) = _; rw [upd_upd, nI_s])
      refine q_iload_n dX9_spread_94 rfl rfl ?_
      refine q_iload_n dX9_spread_95 rfl rfl ?_
      refine q_ior dX9_spread_96 ?_
      refine q_istore_n dX9_spread_97 rfl (by decide) ?_
      refine q_goto 18 dX9_spread_98 (by decide) ?_
      exact ih (i + 1) _ _ _ _ (by omega) rfl hmi rfl ⟨rfl, rfl, rfl, trivial⟩
  refine Con.of (by decide +kernel) rfl rfl (Nat.le_of_ble_eq_true rfl) ?_
  refine q_iload_n dX9_spread_0 rfl rfl ?_
  refine q_iconst (v := 1) dX9_spread_1 rfl ?_
  refine q_aload_n dX9_spread_2 rfl rfl ?_
  refine q_get dX9_spread_3 fX9_spread_111 (hM) rfl ?_
  refine q_ishl dX9_spread_6 ?_
  refine q_iconst (v := 1) dX9_spread_7 rfl ?_
  refine q_isub dX9_spread_8 ?_
  refine q_iand dX9_spread_9 ?_
  rw [hn, show s &&& ((1 : Int32) <<< (nI n &&& 31) - 1) = s0 from hS0]
  refine q_istore_n dX9_spread_10 rfl (by decide) ?_
  refine q_iconst (v := 1) dX9_spread_11 rfl ?_
  refine q_istore_n dX9_spread_12 rfl (by decide) ?_
  refine q_aload_n dX9_spread_13 rfl rfl ?_
  refine q_iconst (v := 0) dX9_spread_14 rfl ?_
  refine q_put dX9_spread_15 pX9_spread_219 (hM) rfl rfl (Nat.le_of_ble_eq_true rfl) ?_
  exact key d 0 _ _ _ _ (by omega) rfl (by decide) rfl ⟨rfl, rfl, rfl, trivial⟩
end

