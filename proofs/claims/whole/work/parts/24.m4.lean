/-! THE REFERENCE (X9): meet, run, days -/
abbrev mX9_gain : mT := (yX9_gain, RX9, cX9_gain, 6, (some .long), wsX9_gain)
abbrev rX9_gain : Room := { frames := 3, cells := 0, slots := 0, locals := 72 }
theorem dX9_gain_0 : decode cX9_gain 0 = .ok (.aload_n 0, 1) := by decide +kernel
theorem dX9_gain_1 : decode cX9_gain 1 = .ok (.iload_n 1, 1) := by decide +kernel
theorem dX9_gain_2 : decode cX9_gain 2 = .ok (.iload_n 2, 1) := by decide +kernel
theorem dX9_gain_3 : decode cX9_gain 3 = .ok (.invokevirtual 160, 3) := by decide +kernel
theorem dX9_gain_6 : decode cX9_gain 6 = .ok (.ifCond .eq 32, 3) := by decide +kernel
theorem dX9_gain_9 : decode cX9_gain 9 = .ok (.iload_n 3, 1) := by decide +kernel
theorem dX9_gain_10 : decode cX9_gain 10 = .ok (.i2l, 1) := by decide +kernel
theorem dX9_gain_11 : decode cX9_gain 11 = .ok (.lconst 0, 1) := by decide +kernel
theorem dX9_gain_12 : decode cX9_gain 12 = .ok (.lconst 1, 1) := by decide +kernel
theorem dX9_gain_13 : decode cX9_gain 13 = .ok (.invokestatic 60, 3) := by decide +kernel
theorem dX9_gain_16 : decode cX9_gain 16 = .ok (.ifCond .eq 22, 3) := by decide +kernel
theorem dX9_gain_19 : decode cX9_gain 19 = .ok (.iload 4, 2) := by decide +kernel
theorem dX9_gain_21 : decode cX9_gain 21 = .ok (.i2l, 1) := by decide +kernel
theorem dX9_gain_22 : decode cX9_gain 22 = .ok (.lconst 0, 1) := by decide +kernel
theorem dX9_gain_23 : decode cX9_gain 23 = .ok (.lconst 1, 1) := by decide +kernel
theorem dX9_gain_24 : decode cX9_gain 24 = .ok (.invokestatic 60, 3) := by decide +kernel
theorem dX9_gain_27 : decode cX9_gain 27 = .ok (.ifCond .eq 11, 3) := by decide +kernel
theorem dX9_gain_30 : decode cX9_gain 30 = .ok (.iload_n 1, 1) := by decide +kernel
theorem dX9_gain_31 : decode cX9_gain 31 = .ok (.aload_n 0, 1) := by decide +kernel
theorem dX9_gain_32 : decode cX9_gain 32 = .ok (.invokevirtual 164, 3) := by decide +kernel
theorem dX9_gain_35 : decode cX9_gain 35 = .ok (.if_icmp .le 7, 3) := by decide +kernel
theorem dX9_gain_38 : decode cX9_gain 38 = .ok (.ldc2_w 167, 3) := by decide +kernel
theorem dX9_gain_41 : decode cX9_gain 41 = .ok (.lreturn, 1) := by decide +kernel
theorem dX9_gain_42 : decode cX9_gain 42 = .ok (.iload_n 3, 1) := by decide +kernel
theorem dX9_gain_43 : decode cX9_gain 43 = .ok (.ifCond .ne 9, 3) := by decide +kernel
theorem dX9_gain_46 : decode cX9_gain 46 = .ok (.iload_n 1, 1) := by decide +kernel
theorem dX9_gain_47 : decode cX9_gain 47 = .ok (.iload_n 2, 1) := by decide +kernel
theorem dX9_gain_48 : decode cX9_gain 48 = .ok (.isub, 1) := by decide +kernel
theorem dX9_gain_49 : decode cX9_gain 49 = .ok (.goto 4, 3) := by decide +kernel
theorem dX9_gain_52 : decode cX9_gain 52 = .ok (.iload_n 2, 1) := by decide +kernel
theorem dX9_gain_53 : decode cX9_gain 53 = .ok (.istore 5, 2) := by decide +kernel
theorem dX9_gain_55 : decode cX9_gain 55 = .ok (.iload 5, 2) := by decide +kernel
theorem dX9_gain_57 : decode cX9_gain 57 = .ok (.ifCond .ne 9, 3) := by decide +kernel
theorem dX9_gain_60 : decode cX9_gain 60 = .ok (.ldc2_w 167, 3) := by decide +kernel
theorem dX9_gain_63 : decode cX9_gain 63 = .ok (.goto 35, 3) := by decide +kernel
theorem dX9_gain_66 : decode cX9_gain 66 = .ok (.iload_n 3, 1) := by decide +kernel
theorem dX9_gain_67 : decode cX9_gain 67 = .ok (.ifCond .ne 13, 3) := by decide +kernel
theorem dX9_gain_70 : decode cX9_gain 70 = .ok (.aload_n 0, 1) := by decide +kernel
theorem dX9_gain_71 : decode cX9_gain 71 = .ok (.iload_n 1, 1) := by decide +kernel
theorem dX9_gain_72 : decode cX9_gain 72 = .ok (.iload_n 2, 1) := by decide +kernel
theorem dX9_gain_73 : decode cX9_gain 73 = .ok (.invokevirtual 169, 3) := by decide +kernel
theorem dX9_gain_76 : decode cX9_gain 76 = .ok (.i2l, 1) := by decide +kernel
theorem dX9_gain_77 : decode cX9_gain 77 = .ok (.goto 9, 3) := by decide +kernel
theorem dX9_gain_80 : decode cX9_gain 80 = .ok (.aload_n 0, 1) := by decide +kernel
theorem dX9_gain_81 : decode cX9_gain 81 = .ok (.iload_n 2, 1) := by decide +kernel
theorem dX9_gain_82 : decode cX9_gain 82 = .ok (.invokevirtual 173, 3) := by decide +kernel
theorem dX9_gain_85 : decode cX9_gain 85 = .ok (.i2l, 1) := by decide +kernel
theorem dX9_gain_86 : decode cX9_gain 86 = .ok (.ldc2_w 176, 3) := by decide +kernel
theorem dX9_gain_89 : decode cX9_gain 89 = .ok (.iload 5, 2) := by decide +kernel
theorem dX9_gain_91 : decode cX9_gain 91 = .ok (.i2l, 1) := by decide +kernel
theorem dX9_gain_92 : decode cX9_gain 92 = .ok (.lmul, 1) := by decide +kernel
theorem dX9_gain_93 : decode cX9_gain 93 = .ok (.iload 4, 2) := by decide +kernel
theorem dX9_gain_95 : decode cX9_gain 95 = .ok (.invokestatic 178, 3) := by decide +kernel
theorem dX9_gain_98 : decode cX9_gain 98 = .ok (.lreturn, 1) := by decide +kernel
set_option maxRecDepth 20000 in
theorem ggX9_gain_X9_in : GoodIn wsX9_gain wsX9_in := goodIn_r _ [11] (by decide +kernel) (by decide +kernel)
set_option maxRecDepth 20000 in
theorem gX9_gain_X9_in : GoodIn wsX9_gain (va_wsS RX9 60 yX9_in wsX9_in) := goodIn_app (goodIn_of _ (by decide +kernel)) ggX9_gain_X9_in
theorem wX9_gain_60 : CWS mX9_gain 60 mX9_in 3 := ⟨gX9_gain_X9_in, ⟨_, rfl⟩, by decide +kernel, by decide +kernel, by decide +kernel⟩
set_option maxRecDepth 20000 in
theorem ggX9_gain_X9_isDay : GoodIn wsX9_gain wsX9_isDay := goodIn_r _ [7, 8, 9, 10, 6, 11] (by decide +kernel) (by decide +kernel)
set_option maxRecDepth 20000 in
theorem gX9_gain_X9_isDay : GoodIn wsX9_gain (wsV RX9 160 RX9 yX9_isDay wsX9_isDay) := goodIn_app (goodIn_of _ (by decide +kernel)) ggX9_gain_X9_isDay
theorem wX9_gain_160 : CWV mX9_gain 160 mX9_isDay 2 := ⟨gX9_gain_X9_isDay, ⟨_, rfl⟩, rfl, by decide +kernel, by decide +kernel, by decide +kernel⟩
set_option maxRecDepth 20000 in
theorem ggX9_gain_X9_allCoins : GoodIn wsX9_gain wsX9_allCoins := goodIn_r _ [15, 16, 17, 18, 6, 19, 20, 21, 41, 42, 43, 44, 45, 46, 47, 48, 49, 50, 51, 52, 53, 54, 55, 56, 57, 58, 59, 60, 61, 62, 63, 64, 65] (by decide +kernel) (by decide +kernel)
set_option maxRecDepth 20000 in
theorem gX9_gain_X9_allCoins : GoodIn wsX9_gain (wsV RX9 164 RX9 yX9_allCoins wsX9_allCoins) := goodIn_app (goodIn_of _ (by decide +kernel)) ggX9_gain_X9_allCoins
theorem wX9_gain_164 : CWV mX9_gain 164 mX9_allCoins 0 := ⟨gX9_gain_X9_allCoins, ⟨_, rfl⟩, rfl, by decide +kernel, by decide +kernel, by decide +kernel⟩
set_option maxRecDepth 20000 in
theorem ggX9_gain_X9_taleUp : GoodIn wsX9_gain wsX9_taleUp := goodIn_r _ [25, 26, 27, 28, 6, 29, 16, 17, 18, 19, 20, 21, 41, 42, 43, 44, 45, 46, 47, 48, 49, 50, 51, 52, 53, 54, 55, 56, 57, 58, 59, 60, 61, 62, 63, 64, 65] (by decide +kernel) (by decide +kernel)
set_option maxRecDepth 20000 in
theorem gX9_gain_X9_taleUp : GoodIn wsX9_gain (wsV RX9 169 RX9 yX9_taleUp wsX9_taleUp) := goodIn_app (goodIn_of _ (by decide +kernel)) ggX9_gain_X9_taleUp
theorem wX9_gain_169 : CWV mX9_gain 169 mX9_taleUp 2 := ⟨gX9_gain_X9_taleUp, ⟨_, rfl⟩, rfl, by decide +kernel, by decide +kernel, by decide +kernel⟩
set_option maxRecDepth 20000 in
theorem ggX9_gain_X9_lookUp : GoodIn wsX9_gain wsX9_lookUp := goodIn_r _ [33, 34, 26, 27, 28, 6, 29, 16, 17, 18, 19, 20, 21, 41, 42, 43, 44, 45, 46, 47, 48, 49, 50, 51, 52, 53, 54, 55, 56, 57, 58, 59, 60, 61, 62, 63, 64, 65] (by decide +kernel) (by decide +kernel)
set_option maxRecDepth 20000 in
theorem gX9_gain_X9_lookUp : GoodIn wsX9_gain (wsV RX9 173 RX9 yX9_lookUp wsX9_lookUp) := goodIn_app (goodIn_of _ (by decide +kernel)) ggX9_gain_X9_lookUp
theorem wX9_gain_173 : CWV mX9_gain 173 mX9_lookUp 1 := ⟨gX9_gain_X9_lookUp, ⟨_, rfl⟩, rfl, by decide +kernel, by decide +kernel, by decide +kernel⟩
set_option maxRecDepth 20000 in
theorem ggX9_gain_X9_inLeast : GoodIn wsX9_gain wsX9_inLeast := goodIn_r _ [37, 38, 39, 6, 40] (by decide +kernel) (by decide +kernel)
set_option maxRecDepth 20000 in
theorem gX9_gain_X9_inLeast : GoodIn wsX9_gain (va_wsS RX9 178 yX9_inLeast wsX9_inLeast) := goodIn_app (goodIn_of _ (by decide +kernel)) ggX9_gain_X9_inLeast
theorem wX9_gain_178 : CWS mX9_gain 178 mX9_inLeast 3 := ⟨gX9_gain_X9_inLeast, ⟨_, rfl⟩, by decide +kernel, by decide +kernel, by decide +kernel⟩
abbrev mX9_isUp : mT := (yX9_isUp, RX9, cX9_isUp, 3, (some .boolean), wsX9_isUp)
abbrev rX9_isUp : Room := { frames := 3, cells := 0, slots := 0, locals := 72 }
theorem dX9_isUp_0 : decode cX9_isUp 0 = .ok (.iload_n 2, 1) := by decide +kernel
theorem dX9_isUp_1 : decode cX9_isUp 1 = .ok (.iload_n 1, 1) := by decide +kernel
theorem dX9_isUp_2 : decode cX9_isUp 2 = .ok (.if_icmp .ge 31, 3) := by decide +kernel
theorem dX9_isUp_5 : decode cX9_isUp 5 = .ok (.aload_n 0, 1) := by decide +kernel
theorem dX9_isUp_6 : decode cX9_isUp 6 = .ok (.iload_n 2, 1) := by decide +kernel
theorem dX9_isUp_7 : decode cX9_isUp 7 = .ok (.iconst 1, 1) := by decide +kernel
theorem dX9_isUp_8 : decode cX9_isUp 8 = .ok (.iadd, 1) := by decide +kernel
theorem dX9_isUp_9 : decode cX9_isUp 9 = .ok (.invokevirtual 173, 3) := by decide +kernel
theorem dX9_isUp_12 : decode cX9_isUp 12 = .ok (.iload_n 1, 1) := by decide +kernel
theorem dX9_isUp_13 : decode cX9_isUp 13 = .ok (.iload_n 2, 1) := by decide +kernel
theorem dX9_isUp_14 : decode cX9_isUp 14 = .ok (.isub, 1) := by decide +kernel
theorem dX9_isUp_15 : decode cX9_isUp 15 = .ok (.imul, 1) := by decide +kernel
theorem dX9_isUp_16 : decode cX9_isUp 16 = .ok (.aload_n 0, 1) := by decide +kernel
theorem dX9_isUp_17 : decode cX9_isUp 17 = .ok (.iload_n 1, 1) := by decide +kernel
theorem dX9_isUp_18 : decode cX9_isUp 18 = .ok (.iload_n 2, 1) := by decide +kernel
theorem dX9_isUp_19 : decode cX9_isUp 19 = .ok (.invokevirtual 169, 3) := by decide +kernel
theorem dX9_isUp_22 : decode cX9_isUp 22 = .ok (.iload_n 2, 1) := by decide +kernel
theorem dX9_isUp_23 : decode cX9_isUp 23 = .ok (.iconst 1, 1) := by decide +kernel
theorem dX9_isUp_24 : decode cX9_isUp 24 = .ok (.iadd, 1) := by decide +kernel
theorem dX9_isUp_25 : decode cX9_isUp 25 = .ok (.imul, 1) := by decide +kernel
theorem dX9_isUp_26 : decode cX9_isUp 26 = .ok (.if_icmp .le 7, 3) := by decide +kernel
theorem dX9_isUp_29 : decode cX9_isUp 29 = .ok (.iconst 1, 1) := by decide +kernel
theorem dX9_isUp_30 : decode cX9_isUp 30 = .ok (.goto 4, 3) := by decide +kernel
theorem dX9_isUp_33 : decode cX9_isUp 33 = .ok (.iconst 0, 1) := by decide +kernel
theorem dX9_isUp_34 : decode cX9_isUp 34 = .ok (.ireturn, 1) := by decide +kernel
set_option maxRecDepth 20000 in
theorem ggX9_isUp_X9_taleUp : GoodIn wsX9_isUp wsX9_taleUp := goodIn_r _ [20, 7, 8, 9, 4, 10, 11, 12, 13, 14, 15, 16, 21, 22, 23, 24, 25, 26, 27, 28, 29, 30, 31, 32, 33, 34, 35, 36, 37, 38, 39, 40, 41, 42, 43, 44, 45] (by decide +kernel) (by decide +kernel)
set_option maxRecDepth 20000 in
theorem gX9_isUp_X9_taleUp : GoodIn wsX9_isUp (wsV RX9 169 RX9 yX9_taleUp wsX9_taleUp) := goodIn_app (goodIn_of _ (by decide +kernel)) ggX9_isUp_X9_taleUp
theorem wX9_isUp_169 : CWV mX9_isUp 169 mX9_taleUp 2 := ⟨gX9_isUp_X9_taleUp, ⟨_, rfl⟩, rfl, by decide +kernel, by decide +kernel, by decide +kernel⟩
set_option maxRecDepth 20000 in
theorem ggX9_isUp_X9_lookUp : GoodIn wsX9_isUp wsX9_lookUp := goodIn_r _ [5, 6, 7, 8, 9, 4, 10, 11, 12, 13, 14, 15, 16, 21, 22, 23, 24, 25, 26, 27, 28, 29, 30, 31, 32, 33, 34, 35, 36, 37, 38, 39, 40, 41, 42, 43, 44, 45] (by decide +kernel) (by decide +kernel)
set_option maxRecDepth 20000 in
theorem gX9_isUp_X9_lookUp : GoodIn wsX9_isUp (wsV RX9 173 RX9 yX9_lookUp wsX9_lookUp) := goodIn_app (goodIn_of _ (by decide +kernel)) ggX9_isUp_X9_lookUp
theorem wX9_isUp_173 : CWV mX9_isUp 173 mX9_lookUp 1 := ⟨gX9_isUp_X9_lookUp, ⟨_, rfl⟩, rfl, by decide +kernel, by decide +kernel, by decide +kernel⟩
abbrev mX9_isDown : mT := (yX9_isDown, RX9, cX9_isDown, 3, (some .boolean), wsX9_isDown)
abbrev rX9_isDown : Room := { frames := 3, cells := 0, slots := 0, locals := 72 }
theorem dX9_isDown_0 : decode cX9_isDown 0 = .ok (.iload_n 2, 1) := by decide +kernel
theorem dX9_isDown_1 : decode cX9_isDown 1 = .ok (.ifCond .le 31, 3) := by decide +kernel
theorem dX9_isDown_4 : decode cX9_isDown 4 = .ok (.aload_n 0, 1) := by decide +kernel
theorem dX9_isDown_5 : decode cX9_isDown 5 = .ok (.iload_n 1, 1) := by decide +kernel
theorem dX9_isDown_6 : decode cX9_isDown 6 = .ok (.iload_n 2, 1) := by decide +kernel
theorem dX9_isDown_7 : decode cX9_isDown 7 = .ok (.iconst 1, 1) := by decide +kernel
theorem dX9_isDown_8 : decode cX9_isDown 8 = .ok (.isub, 1) := by decide +kernel
theorem dX9_isDown_9 : decode cX9_isDown 9 = .ok (.invokevirtual 169, 3) := by decide +kernel
theorem dX9_isDown_12 : decode cX9_isDown 12 = .ok (.iload_n 2, 1) := by decide +kernel
theorem dX9_isDown_13 : decode cX9_isDown 13 = .ok (.imul, 1) := by decide +kernel
theorem dX9_isDown_14 : decode cX9_isDown 14 = .ok (.aload_n 0, 1) := by decide +kernel
theorem dX9_isDown_15 : decode cX9_isDown 15 = .ok (.iload_n 2, 1) := by decide +kernel
theorem dX9_isDown_16 : decode cX9_isDown 16 = .ok (.invokevirtual 173, 3) := by decide +kernel
theorem dX9_isDown_19 : decode cX9_isDown 19 = .ok (.iload_n 1, 1) := by decide +kernel
theorem dX9_isDown_20 : decode cX9_isDown 20 = .ok (.iload_n 2, 1) := by decide +kernel
theorem dX9_isDown_21 : decode cX9_isDown 21 = .ok (.isub, 1) := by decide +kernel
theorem dX9_isDown_22 : decode cX9_isDown 22 = .ok (.iconst 1, 1) := by decide +kernel
theorem dX9_isDown_23 : decode cX9_isDown 23 = .ok (.iadd, 1) := by decide +kernel
theorem dX9_isDown_24 : decode cX9_isDown 24 = .ok (.imul, 1) := by decide +kernel
theorem dX9_isDown_25 : decode cX9_isDown 25 = .ok (.if_icmp .le 7, 3) := by decide +kernel
theorem dX9_isDown_28 : decode cX9_isDown 28 = .ok (.iconst 1, 1) := by decide +kernel
theorem dX9_isDown_29 : decode cX9_isDown 29 = .ok (.goto 4, 3) := by decide +kernel
theorem dX9_isDown_32 : decode cX9_isDown 32 = .ok (.iconst 0, 1) := by decide +kernel
theorem dX9_isDown_33 : decode cX9_isDown 33 = .ok (.ireturn, 1) := by decide +kernel
set_option maxRecDepth 20000 in
theorem ggX9_isDown_X9_taleUp : GoodIn wsX9_isDown wsX9_taleUp := goodIn_r _ [5, 6, 7, 8, 4, 9, 10, 11, 12, 13, 14, 15, 21, 22, 23, 24, 25, 26, 27, 28, 29, 30, 31, 32, 33, 34, 35, 36, 37, 38, 39, 40, 41, 42, 43, 44, 45] (by decide +kernel) (by decide +kernel)
set_option maxRecDepth 20000 in
theorem gX9_isDown_X9_taleUp : GoodIn wsX9_isDown (wsV RX9 169 RX9 yX9_taleUp wsX9_taleUp) := goodIn_app (goodIn_of _ (by decide +kernel)) ggX9_isDown_X9_taleUp
theorem wX9_isDown_169 : CWV mX9_isDown 169 mX9_taleUp 2 := ⟨gX9_isDown_X9_taleUp, ⟨_, rfl⟩, rfl, by decide +kernel, by decide +kernel, by decide +kernel⟩
set_option maxRecDepth 20000 in
theorem ggX9_isDown_X9_lookUp : GoodIn wsX9_isDown wsX9_lookUp := goodIn_r _ [19, 20, 6, 7, 8, 4, 9, 10, 11, 12, 13, 14, 15, 21, 22, 23, 24, 25, 26, 27, 28, 29, 30, 31, 32, 33, 34, 35, 36, 37, 38, 39, 40, 41, 42, 43, 44, 45] (by decide +kernel) (by decide +kernel)
set_option maxRecDepth 20000 in
theorem gX9_isDown_X9_lookUp : GoodIn wsX9_isDown (wsV RX9 173 RX9 yX9_lookUp wsX9_lookUp) := goodIn_app (goodIn_of _ (by decide +kernel)) ggX9_isDown_X9_lookUp
theorem wX9_isDown_173 : CWV mX9_isDown 173 mX9_lookUp 1 := ⟨gX9_isDown_X9_lookUp, ⟨_, rfl⟩, rfl, by decide +kernel, by decide +kernel, by decide +kernel⟩
abbrev mX9_rests : mT := (yX9_rests, RX9, cX9_rests, 4, (some .int), wsX9_rests)
abbrev rX9_rests : Room := { frames := 4, cells := 0, slots := 0, locals := 94 }
theorem dX9_rests_0 : decode cX9_rests 0 = .ok (.iload_n 1, 1) := by decide +kernel
theorem dX9_rests_1 : decode cX9_rests 1 = .ok (.i2l, 1) := by decide +kernel
theorem dX9_rests_2 : decode cX9_rests 2 = .ok (.lconst 1, 1) := by decide +kernel
theorem dX9_rests_3 : decode cX9_rests 3 = .ok (.ldc2_w 158, 3) := by decide +kernel
theorem dX9_rests_6 : decode cX9_rests 6 = .ok (.invokestatic 60, 3) := by decide +kernel
theorem dX9_rests_9 : decode cX9_rests 9 = .ok (.ifCond .ne 5, 3) := by decide +kernel
theorem dX9_rests_12 : decode cX9_rests 12 = .ok (.iconst (-1), 1) := by decide +kernel
theorem dX9_rests_13 : decode cX9_rests 13 = .ok (.ireturn, 1) := by decide +kernel
theorem dX9_rests_14 : decode cX9_rests 14 = .ok (.iload_n 1, 1) := by decide +kernel
theorem dX9_rests_15 : decode cX9_rests 15 = .ok (.aload_n 0, 1) := by decide +kernel
theorem dX9_rests_16 : decode cX9_rests 16 = .ok (.invokevirtual 164, 3) := by decide +kernel
theorem dX9_rests_19 : decode cX9_rests 19 = .ok (.if_icmp .le 6, 3) := by decide +kernel
theorem dX9_rests_22 : decode cX9_rests 22 = .ok (.bipush (-2), 2) := by decide +kernel
theorem dX9_rests_24 : decode cX9_rests 24 = .ok (.ireturn, 1) := by decide +kernel
theorem dX9_rests_25 : decode cX9_rests 25 = .ok (.iconst 0, 1) := by decide +kernel
theorem dX9_rests_26 : decode cX9_rests 26 = .ok (.istore_n 2, 1) := by decide +kernel
theorem dX9_rests_27 : decode cX9_rests 27 = .ok (.iconst 0, 1) := by decide +kernel
theorem dX9_rests_28 : decode cX9_rests 28 = .ok (.istore_n 3, 1) := by decide +kernel
theorem dX9_rests_29 : decode cX9_rests 29 = .ok (.iload_n 3, 1) := by decide +kernel
theorem dX9_rests_30 : decode cX9_rests 30 = .ok (.iload_n 1, 1) := by decide +kernel
theorem dX9_rests_31 : decode cX9_rests 31 = .ok (.if_icmp .gt 37, 3) := by decide +kernel
theorem dX9_rests_34 : decode cX9_rests 34 = .ok (.iload_n 2, 1) := by decide +kernel
theorem dX9_rests_35 : decode cX9_rests 35 = .ok (.aload_n 0, 1) := by decide +kernel
theorem dX9_rests_36 : decode cX9_rests 36 = .ok (.iload_n 1, 1) := by decide +kernel
theorem dX9_rests_37 : decode cX9_rests 37 = .ok (.iload_n 3, 1) := by decide +kernel
theorem dX9_rests_38 : decode cX9_rests 38 = .ok (.invokevirtual 182, 3) := by decide +kernel
theorem dX9_rests_41 : decode cX9_rests 41 = .ok (.ifCond .ne 12, 3) := by decide +kernel
theorem dX9_rests_44 : decode cX9_rests 44 = .ok (.aload_n 0, 1) := by decide +kernel
theorem dX9_rests_45 : decode cX9_rests 45 = .ok (.iload_n 1, 1) := by decide +kernel
theorem dX9_rests_46 : decode cX9_rests 46 = .ok (.iload_n 3, 1) := by decide +kernel
theorem dX9_rests_47 : decode cX9_rests 47 = .ok (.invokevirtual 185, 3) := by decide +kernel
theorem dX9_rests_50 : decode cX9_rests 50 = .ok (.ifCond .eq 7, 3) := by decide +kernel
theorem dX9_rests_53 : decode cX9_rests 53 = .ok (.iconst 0, 1) := by decide +kernel
theorem dX9_rests_54 : decode cX9_rests 54 = .ok (.goto 6, 3) := by decide +kernel
theorem dX9_rests_57 : decode cX9_rests 57 = .ok (.iconst 1, 1) := by decide +kernel
theorem dX9_rests_58 : decode cX9_rests 58 = .ok (.iload_n 3, 1) := by decide +kernel
theorem dX9_rests_59 : decode cX9_rests 59 = .ok (.ishl, 1) := by decide +kernel
theorem dX9_rests_60 : decode cX9_rests 60 = .ok (.ior, 1) := by decide +kernel
theorem dX9_rests_61 : decode cX9_rests 61 = .ok (.istore_n 2, 1) := by decide +kernel
theorem dX9_rests_62 : decode cX9_rests 62 = .ok (.iinc 3 1, 3) := by decide +kernel
theorem dX9_rests_65 : decode cX9_rests 65 = .ok (.goto (-36), 3) := by decide +kernel
theorem dX9_rests_68 : decode cX9_rests 68 = .ok (.iload_n 2, 1) := by decide +kernel
theorem dX9_rests_69 : decode cX9_rests 69 = .ok (.ireturn, 1) := by decide +kernel
set_option maxRecDepth 20000 in
theorem ggX9_rests_X9_in : GoodIn wsX9_rests wsX9_in := goodIn_r _ [5] (by decide +kernel) (by decide +kernel)
set_option maxRecDepth 20000 in
theorem gX9_rests_X9_in : GoodIn wsX9_rests (va_wsS RX9 60 yX9_in wsX9_in) := goodIn_app (goodIn_of _ (by decide +kernel)) ggX9_rests_X9_in
theorem wX9_rests_60 : CWS mX9_rests 60 mX9_in 3 := ⟨gX9_rests_X9_in, ⟨_, rfl⟩, by decide +kernel, by decide +kernel, by decide +kernel⟩
set_option maxRecDepth 20000 in
theorem ggX9_rests_X9_allCoins : GoodIn wsX9_rests wsX9_allCoins := goodIn_r _ [9, 10, 11, 12, 4, 13, 14, 15, 37, 38, 39, 40, 41, 42, 43, 44, 45, 46, 47, 48, 49, 50, 51, 52, 53, 54, 55, 56, 57, 58, 59, 60, 61] (by decide +kernel) (by decide +kernel)
set_option maxRecDepth 20000 in
theorem gX9_rests_X9_allCoins : GoodIn wsX9_rests (wsV RX9 164 RX9 yX9_allCoins wsX9_allCoins) := goodIn_app (goodIn_of _ (by decide +kernel)) ggX9_rests_X9_allCoins
theorem wX9_rests_164 : CWV mX9_rests 164 mX9_allCoins 0 := ⟨gX9_rests_X9_allCoins, ⟨_, rfl⟩, rfl, by decide +kernel, by decide +kernel, by decide +kernel⟩
set_option maxRecDepth 20000 in
theorem ggX9_rests_X9_isUp : GoodIn wsX9_rests wsX9_isUp := goodIn_r _ [19, 20, 21, 22, 4, 23, 24, 25, 26, 27, 28, 10, 11, 12, 13, 14, 15, 29, 30, 31, 32, 37, 38, 39, 40, 41, 42, 43, 44, 45, 46, 47, 48, 49, 50, 51, 52, 53, 54, 55, 56, 57, 58, 59, 60, 61] (by decide +kernel) (by decide +kernel)
set_option maxRecDepth 20000 in
theorem gX9_rests_X9_isUp : GoodIn wsX9_rests (wsV RX9 182 RX9 yX9_isUp wsX9_isUp) := goodIn_app (goodIn_of _ (by decide +kernel)) ggX9_rests_X9_isUp
theorem wX9_rests_182 : CWV mX9_rests 182 mX9_isUp 2 := ⟨gX9_rests_X9_isUp, ⟨_, rfl⟩, rfl, by decide +kernel, by decide +kernel, by decide +kernel⟩
set_option maxRecDepth 20000 in
theorem ggX9_rests_X9_isDown : GoodIn wsX9_rests wsX9_isDown := goodIn_r _ [36, 29, 30, 31, 4, 32, 25, 26, 27, 28, 10, 11, 12, 13, 14, 15, 20, 21, 22, 23, 24, 37, 38, 39, 40, 41, 42, 43, 44, 45, 46, 47, 48, 49, 50, 51, 52, 53, 54, 55, 56, 57, 58, 59, 60, 61] (by decide +kernel) (by decide +kernel)
set_option maxRecDepth 20000 in
theorem gX9_rests_X9_isDown : GoodIn wsX9_rests (wsV RX9 185 RX9 yX9_isDown wsX9_isDown) := goodIn_app (goodIn_of _ (by decide +kernel)) ggX9_rests_X9_isDown
theorem wX9_rests_185 : CWV mX9_rests 185 mX9_isDown 2 := ⟨gX9_rests_X9_isDown, ⟨_, rfl⟩, rfl, by decide +kernel, by decide +kernel, by decide +kernel⟩
abbrev mX9_end : mT := (yX9_end, RX9, cX9_end, 5, (some .int), wsX9_end)
abbrev rX9_end : Room := { frames := 4, cells := 0, slots := 0, locals := 94 }
theorem dX9_end_0 : decode cX9_end 0 = .ok (.iload_n 2, 1) := by decide +kernel
theorem dX9_end_1 : decode cX9_end 1 = .ok (.istore_n 3, 1) := by decide +kernel
theorem dX9_end_2 : decode cX9_end 2 = .ok (.iconst 1, 1) := by decide +kernel
theorem dX9_end_3 : decode cX9_end 3 = .ok (.istore 4, 2) := by decide +kernel
theorem dX9_end_5 : decode cX9_end 5 = .ok (.iload 4, 2) := by decide +kernel
theorem dX9_end_7 : decode cX9_end 7 = .ok (.ifCond .eq 40, 3) := by decide +kernel
theorem dX9_end_10 : decode cX9_end 10 = .ok (.aload_n 0, 1) := by decide +kernel
theorem dX9_end_11 : decode cX9_end 11 = .ok (.iload_n 1, 1) := by decide +kernel
theorem dX9_end_12 : decode cX9_end 12 = .ok (.iload_n 3, 1) := by decide +kernel
theorem dX9_end_13 : decode cX9_end 13 = .ok (.invokevirtual 182, 3) := by decide +kernel
theorem dX9_end_16 : decode cX9_end 16 = .ok (.ifCond .eq 7, 3) := by decide +kernel
theorem dX9_end_19 : decode cX9_end 19 = .ok (.iconst 1, 1) := by decide +kernel
theorem dX9_end_20 : decode cX9_end 20 = .ok (.goto 17, 3) := by decide +kernel
theorem dX9_end_23 : decode cX9_end 23 = .ok (.aload_n 0, 1) := by decide +kernel
theorem dX9_end_24 : decode cX9_end 24 = .ok (.iload_n 1, 1) := by decide +kernel
theorem dX9_end_25 : decode cX9_end 25 = .ok (.iload_n 3, 1) := by decide +kernel
theorem dX9_end_26 : decode cX9_end 26 = .ok (.invokevirtual 185, 3) := by decide +kernel
theorem dX9_end_29 : decode cX9_end 29 = .ok (.ifCond .eq 7, 3) := by decide +kernel
theorem dX9_end_32 : decode cX9_end 32 = .ok (.iconst (-1), 1) := by decide +kernel
theorem dX9_end_33 : decode cX9_end 33 = .ok (.goto 4, 3) := by decide +kernel
theorem dX9_end_36 : decode cX9_end 36 = .ok (.iconst 0, 1) := by decide +kernel
theorem dX9_end_37 : decode cX9_end 37 = .ok (.istore 4, 2) := by decide +kernel
theorem dX9_end_39 : decode cX9_end 39 = .ok (.iload_n 3, 1) := by decide +kernel
theorem dX9_end_40 : decode cX9_end 40 = .ok (.iload 4, 2) := by decide +kernel
theorem dX9_end_42 : decode cX9_end 42 = .ok (.iadd, 1) := by decide +kernel
theorem dX9_end_43 : decode cX9_end 43 = .ok (.istore_n 3, 1) := by decide +kernel
theorem dX9_end_44 : decode cX9_end 44 = .ok (.goto (-39), 3) := by decide +kernel
theorem dX9_end_47 : decode cX9_end 47 = .ok (.iload_n 3, 1) := by decide +kernel
theorem dX9_end_48 : decode cX9_end 48 = .ok (.ireturn, 1) := by decide +kernel
set_option maxRecDepth 20000 in
theorem ggX9_end_X9_isUp : GoodIn wsX9_end wsX9_isUp := goodIn_r _ [5, 6, 7, 8, 4, 9, 10, 11, 12, 13, 14, 15, 16, 17, 18, 19, 20, 21, 22, 23, 24, 29, 30, 31, 32, 33, 34, 35, 36, 37, 38, 39, 40, 41, 42, 43, 44, 45, 46, 47, 48, 49, 50, 51, 52, 53] (by decide +kernel) (by decide +kernel)
set_option maxRecDepth 20000 in
theorem gX9_end_X9_isUp : GoodIn wsX9_end (wsV RX9 182 RX9 yX9_isUp wsX9_isUp) := goodIn_app (goodIn_of _ (by decide +kernel)) ggX9_end_X9_isUp
theorem wX9_end_182 : CWV mX9_end 182 mX9_isUp 2 := ⟨gX9_end_X9_isUp, ⟨_, rfl⟩, rfl, by decide +kernel, by decide +kernel, by decide +kernel⟩
set_option maxRecDepth 20000 in
theorem ggX9_end_X9_isDown : GoodIn wsX9_end wsX9_isDown := goodIn_r _ [28, 21, 22, 23, 4, 24, 11, 12, 13, 14, 15, 16, 17, 18, 19, 20, 6, 7, 8, 9, 10, 29, 30, 31, 32, 33, 34, 35, 36, 37, 38, 39, 40, 41, 42, 43, 44, 45, 46, 47, 48, 49, 50, 51, 52, 53] (by decide +kernel) (by decide +kernel)
set_option maxRecDepth 20000 in
theorem gX9_end_X9_isDown : GoodIn wsX9_end (wsV RX9 185 RX9 yX9_isDown wsX9_isDown) := goodIn_app (goodIn_of _ (by decide +kernel)) ggX9_end_X9_isDown
theorem wX9_end_185 : CWV mX9_end 185 mX9_isDown 2 := ⟨gX9_end_X9_isDown, ⟨_, rfl⟩, rfl, by decide +kernel, by decide +kernel, by decide +kernel⟩
abbrev mX9_goes : mT := (yX9_goes, RX9, cX9_goes, 3, (some .int), wsX9_goes)
abbrev rX9_goes : Room := { frames := 5, cells := 0, slots := 0, locals := 118 }
theorem dX9_goes_0 : decode cX9_goes 0 = .ok (.aload_n 0, 1) := by decide +kernel
theorem dX9_goes_1 : decode cX9_goes 1 = .ok (.iload_n 1, 1) := by decide +kernel
theorem dX9_goes_2 : decode cX9_goes 2 = .ok (.iload_n 2, 1) := by decide +kernel
theorem dX9_goes_3 : decode cX9_goes 3 = .ok (.invokevirtual 160, 3) := by decide +kernel
theorem dX9_goes_6 : decode cX9_goes 6 = .ok (.ifCond .ne 5, 3) := by decide +kernel
theorem dX9_goes_9 : decode cX9_goes 9 = .ok (.iconst (-1), 1) := by decide +kernel
theorem dX9_goes_10 : decode cX9_goes 10 = .ok (.ireturn, 1) := by decide +kernel
theorem dX9_goes_11 : decode cX9_goes 11 = .ok (.iload_n 1, 1) := by decide +kernel
theorem dX9_goes_12 : decode cX9_goes 12 = .ok (.aload_n 0, 1) := by decide +kernel
theorem dX9_goes_13 : decode cX9_goes 13 = .ok (.invokevirtual 164, 3) := by decide +kernel
theorem dX9_goes_16 : decode cX9_goes 16 = .ok (.if_icmp .le 8, 3) := by decide +kernel
theorem dX9_goes_19 : decode cX9_goes 19 = .ok (.bipush (-2), 2) := by decide +kernel
theorem dX9_goes_21 : decode cX9_goes 21 = .ok (.goto 9, 3) := by decide +kernel
theorem dX9_goes_24 : decode cX9_goes 24 = .ok (.aload_n 0, 1) := by decide +kernel
theorem dX9_goes_25 : decode cX9_goes 25 = .ok (.iload_n 1, 1) := by decide +kernel
theorem dX9_goes_26 : decode cX9_goes 26 = .ok (.iload_n 2, 1) := by decide +kernel
theorem dX9_goes_27 : decode cX9_goes 27 = .ok (.invokevirtual 188, 3) := by decide +kernel
theorem dX9_goes_30 : decode cX9_goes 30 = .ok (.ireturn, 1) := by decide +kernel
set_option maxRecDepth 20000 in
theorem ggX9_goes_X9_isDay : GoodIn wsX9_goes wsX9_isDay := goodIn_r _ [5, 6, 7, 8, 4, 9] (by decide +kernel) (by decide +kernel)
set_option maxRecDepth 20000 in
theorem gX9_goes_X9_isDay : GoodIn wsX9_goes (wsV RX9 160 RX9 yX9_isDay wsX9_isDay) := goodIn_app (goodIn_of _ (by decide +kernel)) ggX9_goes_X9_isDay
theorem wX9_goes_160 : CWV mX9_goes 160 mX9_isDay 2 := ⟨gX9_goes_X9_isDay, ⟨_, rfl⟩, rfl, by decide +kernel, by decide +kernel, by decide +kernel⟩
set_option maxRecDepth 20000 in
theorem ggX9_goes_X9_allCoins : GoodIn wsX9_goes wsX9_allCoins := goodIn_r _ [13, 14, 15, 16, 4, 17, 18, 19, 45, 46, 47, 48, 49, 50, 51, 52, 53, 54, 55, 56, 57, 58, 59, 60, 61, 62, 63, 64, 65, 66, 67, 68, 69] (by decide +kernel) (by decide +kernel)
set_option maxRecDepth 20000 in
theorem gX9_goes_X9_allCoins : GoodIn wsX9_goes (wsV RX9 164 RX9 yX9_allCoins wsX9_allCoins) := goodIn_app (goodIn_of _ (by decide +kernel)) ggX9_goes_X9_allCoins
theorem wX9_goes_164 : CWV mX9_goes 164 mX9_allCoins 0 := ⟨gX9_goes_X9_allCoins, ⟨_, rfl⟩, rfl, by decide +kernel, by decide +kernel, by decide +kernel⟩
set_option maxRecDepth 20000 in
theorem ggX9_goes_X9_end : GoodIn wsX9_goes wsX9_end := goodIn_r _ [23, 24, 25, 26, 4, 27, 28, 29, 30, 31, 32, 33, 34, 35, 36, 14, 15, 16, 17, 18, 19, 37, 38, 39, 40, 41, 42, 43, 44, 45, 46, 47, 48, 49, 50, 51, 52, 53, 54, 55, 56, 57, 58, 59, 60, 61, 62, 63, 64, 65, 66, 67, 68, 69] (by decide +kernel) (by decide +kernel)
set_option maxRecDepth 20000 in
theorem gX9_goes_X9_end : GoodIn wsX9_goes (wsV RX9 188 RX9 yX9_end wsX9_end) := goodIn_app (goodIn_of _ (by decide +kernel)) ggX9_goes_X9_end
theorem wX9_goes_188 : CWV mX9_goes 188 mX9_end 2 := ⟨gX9_goes_X9_end, ⟨_, rfl⟩, rfl, by decide +kernel, by decide +kernel, by decide +kernel⟩
abbrev mX9_tip : mT := (yX9_tip, RX9, cX9_tip, 3, (some .int), wsX9_tip)
abbrev rX9_tip : Room := { frames := 5, cells := 0, slots := 0, locals := 118 }
theorem dX9_tip_0 : decode cX9_tip 0 = .ok (.iload_n 1, 1) := by decide +kernel
theorem dX9_tip_1 : decode cX9_tip 1 = .ok (.i2l, 1) := by decide +kernel
theorem dX9_tip_2 : decode cX9_tip 2 = .ok (.lconst 1, 1) := by decide +kernel
theorem dX9_tip_3 : decode cX9_tip 3 = .ok (.ldc2_w 158, 3) := by decide +kernel
theorem dX9_tip_6 : decode cX9_tip 6 = .ok (.invokestatic 60, 3) := by decide +kernel
theorem dX9_tip_9 : decode cX9_tip 9 = .ok (.ifCond .ne 5, 3) := by decide +kernel
theorem dX9_tip_12 : decode cX9_tip 12 = .ok (.iconst (-1), 1) := by decide +kernel
theorem dX9_tip_13 : decode cX9_tip 13 = .ok (.ireturn, 1) := by decide +kernel
theorem dX9_tip_14 : decode cX9_tip 14 = .ok (.iload_n 1, 1) := by decide +kernel
theorem dX9_tip_15 : decode cX9_tip 15 = .ok (.aload_n 0, 1) := by decide +kernel
theorem dX9_tip_16 : decode cX9_tip 16 = .ok (.invokevirtual 164, 3) := by decide +kernel
theorem dX9_tip_19 : decode cX9_tip 19 = .ok (.if_icmp .le 6, 3) := by decide +kernel
theorem dX9_tip_22 : decode cX9_tip 22 = .ok (.bipush (-2), 2) := by decide +kernel
theorem dX9_tip_24 : decode cX9_tip 24 = .ok (.ireturn, 1) := by decide +kernel
theorem dX9_tip_25 : decode cX9_tip 25 = .ok (.iconst 0, 1) := by decide +kernel
theorem dX9_tip_26 : decode cX9_tip 26 = .ok (.istore_n 2, 1) := by decide +kernel
theorem dX9_tip_27 : decode cX9_tip 27 = .ok (.iload_n 2, 1) := by decide +kernel
theorem dX9_tip_28 : decode cX9_tip 28 = .ok (.iload_n 1, 1) := by decide +kernel
theorem dX9_tip_29 : decode cX9_tip 29 = .ok (.if_icmp .gt 21, 3) := by decide +kernel
theorem dX9_tip_32 : decode cX9_tip 32 = .ok (.aload_n 0, 1) := by decide +kernel
theorem dX9_tip_33 : decode cX9_tip 33 = .ok (.iload_n 1, 1) := by decide +kernel
theorem dX9_tip_34 : decode cX9_tip 34 = .ok (.iload_n 2, 1) := by decide +kernel
theorem dX9_tip_35 : decode cX9_tip 35 = .ok (.invokevirtual 188, 3) := by decide +kernel
theorem dX9_tip_38 : decode cX9_tip 38 = .ok (.iload_n 1, 1) := by decide +kernel
theorem dX9_tip_39 : decode cX9_tip 39 = .ok (.if_icmp .ne 5, 3) := by decide +kernel
theorem dX9_tip_42 : decode cX9_tip 42 = .ok (.iload_n 2, 1) := by decide +kernel
theorem dX9_tip_43 : decode cX9_tip 43 = .ok (.ireturn, 1) := by decide +kernel
theorem dX9_tip_44 : decode cX9_tip 44 = .ok (.iinc 2 1, 3) := by decide +kernel
theorem dX9_tip_47 : decode cX9_tip 47 = .ok (.goto (-20), 3) := by decide +kernel
theorem dX9_tip_50 : decode cX9_tip 50 = .ok (.bipush (-9), 2) := by decide +kernel
theorem dX9_tip_52 : decode cX9_tip 52 = .ok (.ireturn, 1) := by decide +kernel
set_option maxRecDepth 20000 in
theorem ggX9_tip_X9_in : GoodIn wsX9_tip wsX9_in := goodIn_r _ [5] (by decide +kernel) (by decide +kernel)
set_option maxRecDepth 20000 in
theorem gX9_tip_X9_in : GoodIn wsX9_tip (va_wsS RX9 60 yX9_in wsX9_in) := goodIn_app (goodIn_of _ (by decide +kernel)) ggX9_tip_X9_in
theorem wX9_tip_60 : CWS mX9_tip 60 mX9_in 3 := ⟨gX9_tip_X9_in, ⟨_, rfl⟩, by decide +kernel, by decide +kernel, by decide +kernel⟩
set_option maxRecDepth 20000 in
theorem ggX9_tip_X9_allCoins : GoodIn wsX9_tip wsX9_allCoins := goodIn_r _ [9, 10, 11, 12, 4, 13, 14, 15, 41, 42, 43, 44, 45, 46, 47, 48, 49, 50, 51, 52, 53, 54, 55, 56, 57, 58, 59, 60, 61, 62, 63, 64, 65] (by decide +kernel) (by decide +kernel)
set_option maxRecDepth 20000 in
theorem gX9_tip_X9_allCoins : GoodIn wsX9_tip (wsV RX9 164 RX9 yX9_allCoins wsX9_allCoins) := goodIn_app (goodIn_of _ (by decide +kernel)) ggX9_tip_X9_allCoins
theorem wX9_tip_164 : CWV mX9_tip 164 mX9_allCoins 0 := ⟨gX9_tip_X9_allCoins, ⟨_, rfl⟩, rfl, by decide +kernel, by decide +kernel, by decide +kernel⟩
set_option maxRecDepth 20000 in
theorem ggX9_tip_X9_end : GoodIn wsX9_tip wsX9_end := goodIn_r _ [19, 20, 21, 22, 4, 23, 24, 25, 26, 27, 28, 29, 30, 31, 32, 10, 11, 12, 13, 14, 15, 33, 34, 35, 36, 37, 38, 39, 40, 41, 42, 43, 44, 45, 46, 47, 48, 49, 50, 51, 52, 53, 54, 55, 56, 57, 58, 59, 60, 61, 62, 63, 64, 65] (by decide +kernel) (by decide +kernel)
set_option maxRecDepth 20000 in
theorem gX9_tip_X9_end : GoodIn wsX9_tip (wsV RX9 188 RX9 yX9_end wsX9_end) := goodIn_app (goodIn_of _ (by decide +kernel)) ggX9_tip_X9_end
theorem wX9_tip_188 : CWV mX9_tip 188 mX9_end 2 := ⟨gX9_tip_X9_end, ⟨_, rfl⟩, rfl, by decide +kernel, by decide +kernel, by decide +kernel⟩
abbrev mX9_out : mT := (yX9_out, RX9, cX9_out, 8, (some .int), wsX9_out)
abbrev rX9_out : Room := { frames := 2, cells := 0, slots := 0, locals := 47 }
theorem dX9_out_0 : decode cX9_out 0 = .ok (.aload_n 0, 1) := by decide +kernel
theorem dX9_out_1 : decode cX9_out 1 = .ok (.iload_n 1, 1) := by decide +kernel
theorem dX9_out_2 : decode cX9_out 2 = .ok (.iload_n 2, 1) := by decide +kernel
theorem dX9_out_3 : decode cX9_out 3 = .ok (.invokevirtual 160, 3) := by decide +kernel
theorem dX9_out_6 : decode cX9_out 6 = .ok (.ifCond .ne 5, 3) := by decide +kernel
theorem dX9_out_9 : decode cX9_out 9 = .ok (.iconst (-1), 1) := by decide +kernel
theorem dX9_out_10 : decode cX9_out 10 = .ok (.ireturn, 1) := by decide +kernel
theorem dX9_out_11 : decode cX9_out 11 = .ok (.iload_n 1, 1) := by decide +kernel
theorem dX9_out_12 : decode cX9_out 12 = .ok (.aload_n 0, 1) := by decide +kernel
theorem dX9_out_13 : decode cX9_out 13 = .ok (.invokevirtual 164, 3) := by decide +kernel
theorem dX9_out_16 : decode cX9_out 16 = .ok (.if_icmp .le 6, 3) := by decide +kernel
theorem dX9_out_19 : decode cX9_out 19 = .ok (.bipush (-2), 2) := by decide +kernel
theorem dX9_out_21 : decode cX9_out 21 = .ok (.ireturn, 1) := by decide +kernel
theorem dX9_out_22 : decode cX9_out 22 = .ok (.iconst 0, 1) := by decide +kernel
theorem dX9_out_23 : decode cX9_out 23 = .ok (.istore_n 3, 1) := by decide +kernel
theorem dX9_out_24 : decode cX9_out 24 = .ok (.iconst 0, 1) := by decide +kernel
theorem dX9_out_25 : decode cX9_out 25 = .ok (.istore 4, 2) := by decide +kernel
theorem dX9_out_27 : decode cX9_out 27 = .ok (.iconst 0, 1) := by decide +kernel
theorem dX9_out_28 : decode cX9_out 28 = .ok (.istore 5, 2) := by decide +kernel
theorem dX9_out_30 : decode cX9_out 30 = .ok (.iload 5, 2) := by decide +kernel
theorem dX9_out_32 : decode cX9_out 32 = .ok (.bipush 10, 2) := by decide +kernel
theorem dX9_out_34 : decode cX9_out 34 = .ok (.if_icmp .ge 74, 3) := by decide +kernel
theorem dX9_out_37 : decode cX9_out 37 = .ok (.aload_n 0, 1) := by decide +kernel
theorem dX9_out_38 : decode cX9_out 38 = .ok (.iload 5, 2) := by decide +kernel
theorem dX9_out_40 : decode cX9_out 40 = .ok (.invokevirtual 131, 3) := by decide +kernel
theorem dX9_out_43 : decode cX9_out 43 = .ok (.istore 6, 2) := by decide +kernel
theorem dX9_out_45 : decode cX9_out 45 = .ok (.iload 4, 2) := by decide +kernel
theorem dX9_out_47 : decode cX9_out 47 = .ok (.iload_n 2, 1) := by decide +kernel
theorem dX9_out_48 : decode cX9_out 48 = .ok (.if_icmp .lt 19, 3) := by decide +kernel
theorem dX9_out_51 : decode cX9_out 51 = .ok (.iload 4, 2) := by decide +kernel
theorem dX9_out_53 : decode cX9_out 53 = .ok (.iload 6, 2) := by decide +kernel
theorem dX9_out_55 : decode cX9_out 55 = .ok (.iadd, 1) := by decide +kernel
theorem dX9_out_56 : decode cX9_out 56 = .ok (.aload_n 0, 1) := by decide +kernel
theorem dX9_out_57 : decode cX9_out 57 = .ok (.invokevirtual 164, 3) := by decide +kernel
theorem dX9_out_60 : decode cX9_out 60 = .ok (.iload_n 1, 1) := by decide +kernel
theorem dX9_out_61 : decode cX9_out 61 = .ok (.iload_n 2, 1) := by decide +kernel
theorem dX9_out_62 : decode cX9_out 62 = .ok (.isub, 1) := by decide +kernel
theorem dX9_out_63 : decode cX9_out 63 = .ok (.isub, 1) := by decide +kernel
theorem dX9_out_64 : decode cX9_out 64 = .ok (.if_icmp .le 7, 3) := by decide +kernel
theorem dX9_out_67 : decode cX9_out 67 = .ok (.iconst 1, 1) := by decide +kernel
theorem dX9_out_68 : decode cX9_out 68 = .ok (.goto 4, 3) := by decide +kernel
theorem dX9_out_71 : decode cX9_out 71 = .ok (.iconst 0, 1) := by decide +kernel
theorem dX9_out_72 : decode cX9_out 72 = .ok (.istore 7, 2) := by decide +kernel
theorem dX9_out_74 : decode cX9_out 74 = .ok (.iload_n 3, 1) := by decide +kernel
theorem dX9_out_75 : decode cX9_out 75 = .ok (.iload 6, 2) := by decide +kernel
theorem dX9_out_77 : decode cX9_out 77 = .ok (.ifCond .le 15, 3) := by decide +kernel
theorem dX9_out_80 : decode cX9_out 80 = .ok (.iload 7, 2) := by decide +kernel
theorem dX9_out_82 : decode cX9_out 82 = .ok (.ifCond .ne 10, 3) := by decide +kernel
theorem dX9_out_85 : decode cX9_out 85 = .ok (.iconst 1, 1) := by decide +kernel
theorem dX9_out_86 : decode cX9_out 86 = .ok (.iload 5, 2) := by decide +kernel
theorem dX9_out_88 : decode cX9_out 88 = .ok (.ishl, 1) := by decide +kernel
theorem dX9_out_89 : decode cX9_out 89 = .ok (.goto 4, 3) := by decide +kernel
theorem dX9_out_92 : decode cX9_out 92 = .ok (.iconst 0, 1) := by decide +kernel
theorem dX9_out_93 : decode cX9_out 93 = .ok (.ior, 1) := by decide +kernel
theorem dX9_out_94 : decode cX9_out 94 = .ok (.istore_n 3, 1) := by decide +kernel
theorem dX9_out_95 : decode cX9_out 95 = .ok (.iload 4, 2) := by decide +kernel
theorem dX9_out_97 : decode cX9_out 97 = .ok (.iload 6, 2) := by decide +kernel
theorem dX9_out_99 : decode cX9_out 99 = .ok (.iadd, 1) := by decide +kernel
theorem dX9_out_100 : decode cX9_out 100 = .ok (.istore 4, 2) := by decide +kernel
theorem dX9_out_102 : decode cX9_out 102 = .ok (.iinc 5 1, 3) := by decide +kernel
theorem dX9_out_105 : decode cX9_out 105 = .ok (.goto (-75), 3) := by decide +kernel
theorem dX9_out_108 : decode cX9_out 108 = .ok (.iload_n 3, 1) := by decide +kernel
theorem dX9_out_109 : decode cX9_out 109 = .ok (.ireturn, 1) := by decide +kernel
set_option maxRecDepth 20000 in
theorem ggX9_out_X9_ofAll : GoodIn wsX9_out wsX9_ofAll := goodIn_r _ [17, 18, 19, 20, 21, 22, 23, 24, 25, 26, 27, 28, 29, 30, 31, 32, 33, 34, 35, 36, 37, 38, 39, 40, 41, 42, 43, 44] (by decide +kernel) (by decide +kernel)
set_option maxRecDepth 20000 in
theorem gX9_out_X9_ofAll : GoodIn wsX9_out (wsV RX9 131 RX9 yX9_ofAll wsX9_ofAll) := goodIn_app (goodIn_of _ (by decide +kernel)) ggX9_out_X9_ofAll
theorem wX9_out_131 : CWV mX9_out 131 mX9_ofAll 1 := ⟨gX9_out_X9_ofAll, ⟨_, rfl⟩, rfl, by decide +kernel, by decide +kernel, by decide +kernel⟩
set_option maxRecDepth 20000 in
theorem ggX9_out_X9_isDay : GoodIn wsX9_out wsX9_isDay := goodIn_r _ [5, 6, 7, 8, 4, 9] (by decide +kernel) (by decide +kernel)
set_option maxRecDepth 20000 in
theorem gX9_out_X9_isDay : GoodIn wsX9_out (wsV RX9 160 RX9 yX9_isDay wsX9_isDay) := goodIn_app (goodIn_of _ (by decide +kernel)) ggX9_out_X9_isDay
theorem wX9_out_160 : CWV mX9_out 160 mX9_isDay 2 := ⟨gX9_out_X9_isDay, ⟨_, rfl⟩, rfl, by decide +kernel, by decide +kernel, by decide +kernel⟩
set_option maxRecDepth 20000 in
theorem ggX9_out_X9_allCoins : GoodIn wsX9_out wsX9_allCoins := goodIn_r _ [13, 14, 15, 16, 4, 17, 18, 19, 20, 21, 22, 23, 24, 25, 26, 27, 28, 29, 30, 31, 32, 33, 34, 35, 36, 37, 38, 39, 40, 41, 42, 43, 44] (by decide +kernel) (by decide +kernel)
set_option maxRecDepth 20000 in
theorem gX9_out_X9_allCoins : GoodIn wsX9_out (wsV RX9 164 RX9 yX9_allCoins wsX9_allCoins) := goodIn_app (goodIn_of _ (by decide +kernel)) ggX9_out_X9_allCoins
theorem wX9_out_164 : CWV mX9_out 164 mX9_allCoins 0 := ⟨gX9_out_X9_allCoins, ⟨_, rfl⟩, rfl, by decide +kernel, by decide +kernel, by decide +kernel⟩
def lkU (W : Nat → Nat) (u1 : Int32) (k : Nat) : Int32 := 10 * nI (gG W wUp k 10) - u1 * nI k
def tlU (W : Nat → Nat) (n k : Nat) : Int32 := 10 * nI (gG W wDn (n - k) 10)
def nUp (W : Nat → Nat) (u1 : Int32) (n k : Nat) : Bool := decide (k < n) && decide (tlU W n k * nI (k + 1) < lkU W u1 (k + 1) * nI (n - k))
def nDn (W : Nat → Nat) (u1 : Int32) (n k : Nat) : Bool := decide (0 < k) && decide (lkU W u1 k * nI (n - k + 1) < tlU W n (k - 1) * nI k)
theorem nUp_lt {W : Nat → Nat} {u1 : Int32} {n k : Nat} (h : nUp W u1 n k = true) : k < n := by
  unfold nUp at h
  rw [Bool.and_eq_true, decide_eq_true_eq] at h
  exact h.1
theorem nDn_pos {W : Nat → Nat} {u1 : Int32} {n k : Nat} (h : nDn W u1 n k = true) : 0 < k := by
  unfold nDn at h
  rw [Bool.and_eq_true, decide_eq_true_eq] at h
  exact h.1
theorem nUD {W : Nat → Nat} {u1 : Int32} {n k : Nat} (h : nUp W u1 n k = true) : nDn W u1 n (k + 1) = false := by
  have hk := nUp_lt h
  unfold nUp at h
  unfold nDn
  rw [Bool.and_eq_true, decide_eq_true_eq, decide_eq_true_eq] at h
  rw [Bool.and_eq_false_iff]
  refine Or.inr (decide_eq_false (fun q => ?_))
  rw [show n - (k + 1) + 1 = n - k by omega, Nat.add_sub_cancel] at q
  exact Int32.lt_irrefl (Int32.lt_trans h.2 q)
section
variable {U D : Nat → Bool}
theorem en_fix {k : Nat} (h : enT U D k = k) : ∀ d, enS U D d k = k := by
  intro d
  induction d with
  | zero => rfl
  | succ d ih => show enS U D d (enT U D k) = k; rw [h, ih]
theorem en_up {n : Nat} (hU : ∀ k, U k = true → k < n) (hUD : ∀ k, U k = true → D (k + 1) = false) : ∀ d k, n - k ≤ d → D k = false → enT U D (enS U D d k) = enS U D d k := by
  intro d
  induction d with
  | zero =>
    intro k h1 h2
    show enT U D k = k
    unfold enT
    rw [if_neg (fun e => absurd (hU k e) (by omega)), if_neg (by rw [h2]; decide)]
  | succ d ih =>
    intro k h1 h2
    by_cases hu : U k = true
    · have e : enT U D k = k + 1 := by unfold enT; rw [if_pos hu]
      show enT U D (enS U D d (enT U D k)) = enS U D d (enT U D k)
      rw [e]
      exact ih (k + 1) (by omega) (hUD k hu)
    · have e : enT U D k = k := by unfold enT; rw [if_neg hu, if_neg (by rw [h2]; decide)]
      rw [en_fix e, e]
theorem en_dn (hD : ∀ k, D k = true → 0 < k) (hUD : ∀ k, U k = true → D (k + 1) = false) : ∀ d k, k ≤ d → U k = false → enT U D (enS U D d k) = enS U D d k := by
  intro d
  induction d with
  | zero =>
    intro k h1 h2
    show enT U D k = k
    unfold enT
    rw [if_neg (by rw [h2]; decide), if_neg (fun e => absurd (hD k e) (by omega))]
  | succ d ih =>
    intro k h1 h2
    by_cases hd : D k = true
    · have hp := hD k hd
      have e : enT U D k = k - 1 := by unfold enT; rw [if_neg (by rw [h2]; decide), if_pos hd]
      show enT U D (enS U D d (enT U D k)) = enS U D d (enT U D k)
      rw [e]
      refine ih (k - 1) (by omega) ?_
      cases hu : U (k - 1) with
      | false => rfl
      | true =>
        have := hUD (k - 1) hu
        rw [show k - 1 + 1 = k by omega, hd] at this
        exact absurd this (by decide)
    · have e : enT U D k = k := by unfold enT; rw [if_neg (by rw [h2]; decide), if_neg hd]
      rw [en_fix e, e]
theorem en_end {n k : Nat} (hU : ∀ k, U k = true → k < n) (hD : ∀ k, D k = true → 0 < k) (hUD : ∀ k, U k = true → D (k + 1) = false) (hk : k ≤ n) : enT U D (enS U D n k) = enS U D n k := by
  cases hu : U k with
  | false => exact en_dn hD hUD n k hk hu
  | true =>
    have hlt := hU k hu
    have e : enT U D k = k + 1 := by unfold enT; rw [if_pos hu]
    obtain ⟨n', rfl⟩ : ∃ n', n = n' + 1 := ⟨n - 1, by omega⟩
    show enT U D (enS U D n' (enT U D k)) = enS U D n' (enT U D k)
    rw [e]
    exact en_up hU hUD n' (k + 1) (by omega) (hUD k hu)
theorem enT_le {n k : Nat} (hU : ∀ k, U k = true → k < n) (hk : k ≤ n) : enT U D k ≤ n := by
  unfold enT
  by_cases h1 : U k = true
  · rw [if_pos h1]; exact hU k h1
  · rw [if_neg h1]
    by_cases h2 : D k = true
    · rw [if_pos h2]; omega
    · rw [if_neg h2]; exact hk
end
/-- the weights left out, as the reference tells them -/
def oS (W : Nat → Nat) (k t : Nat) : Nat → Int32
  | 0 => 0
  | i + 1 => if 0 < W i ∧ ¬ (cB W wUp i < k ∨ t < cB W wUp i + W i) then oS W k t i ||| (1 <<< (nI i &&& 31)) else oS W k t i
section
variable {Γ : gT} {l : Launch} {as : List Nat} {h : aH} {m : Nat} {tc : Int64} {r : Nat → Nat} {z : Nat → Int32} {n lim : Nat} {f u w x y lo mt : Nat → Int32} {W : Nat → Nat}
theorem n_meet_few (hM : hat as h m (mo tc r z)) (hn : z 3 = nI n) (hn2 : n < 2) : Det Γ l mX9_meet rX9_meet [.ref m] as h (some (.int (-2))) h := by
  refine Con.of (by decide +kernel) rfl rfl (Nat.le_of_ble_eq_true rfl) ?_
  refine q_aload_n dX9_meet_0 rfl rfl ?_
  refine q_get dX9_meet_1 fX9_meet_111 (hM) rfl ?_
  refine q_iconst (v := 2) dX9_meet_4 rfl ?_
  refine q_icmp_ge 13 dX9_meet_5 (by decide) (fun z => absurd z (by rw [hn]; exact nI_ge (b := 2) hn2 (by omega))) (fun _ => ?_)
  refine q_bipush (v := (-2)) dX9_meet_8 rfl ?_
  refine q_goto 17 dX9_meet_10 (by decide) ?_
  exact q_iret dX9_meet_17 rfl (Nat.zero_le _) (Nat.zero_le _) (⟨rfl, rfl, rfl⟩)
theorem n_meet (hn : z 3 = nI n) (hn2 : 2 ≤ n) (hn8 : n ≤ 8) (hlim : lim ≤ 9) (hu0 : u 0 = nI lim) (hM : hat as h m (mo tc r z)) (hlo : hat as h (r 14) (aI Γ 3 lo)) (hf : hat as h (r 13) (aI Γ 240 f)) (hmt : hat as h (r 18) (aI Γ 4 mt)) (hw : hat as h (r 4) (aI Γ 16 w)) (hx : hat as h (r 5) (aI Γ 16 x)) (hy : hat as h (r 6) (aI Γ 16 y)) (hu : hat as h (r 17) (aI Γ 6 u)) (hpay : ∀ p, p < n → y p = 0 ∨ y p = 1) (hf99 : ∀ j, j < 80 → f j ≤ 99) : Det Γ l mX9_meet rX9_meet [.ref m] as h (some (.int (mPaid w x y f n lim (lo 0)))) (nH Γ m tc r z lo mt h (mSt w x y n lim (lo 0, f, mt 0, mt 1, mt 2, mt 3, z 19))) := by
  refine Con.of (by decide +kernel) rfl rfl (Nat.le_of_ble_eq_true rfl) ?_
  refine q_aload_n dX9_meet_0 rfl rfl ?_
  refine q_get dX9_meet_1 fX9_meet_111 (hM) rfl ?_
  refine q_iconst (v := 2) dX9_meet_4 rfl ?_
  refine q_icmp_ge 13 dX9_meet_5 (by decide) (fun _ => ?_) (fun z => absurd (by rw [hn]; exact nI_le (a := 2) hn2 (by omega)) z)
  refine q_aload_n dX9_meet_13 rfl rfl ?_
  refine q_callVd dX9_meet_14 wX9_meet_143 (n_meetOnce hn hn2 hn8 hlim hu0 hM hlo hf hmt hw hx hy hu hpay hf99) (hM) ⟨_, _, rfl⟩ rfl rfl (Nat.le_of_ble_eq_true rfl) ⟨⟨Nat.le_of_ble_eq_true rfl, Nat.le_of_ble_eq_true rfl⟩, Nat.le_of_ble_eq_true rfl, Nat.le_of_ble_eq_true rfl⟩ ?_
  exact q_iret dX9_meet_17 rfl (Nat.zero_le _) (Nat.zero_le _) (⟨rfl, rfl, rfl⟩)
theorem n_run_bad {q : Int32} (hb : q < 1 ∨ 500 < q) : Det Γ l mX9_run rX9_run [.ref m, .int q] as h (some (.int (-1))) h := by
  refine Con.of (by decide +kernel) rfl rfl (Nat.le_of_ble_eq_true rfl) ?_
  refine q_iload_n dX9_run_0 rfl rfl ?_
  refine q_i2l dX9_run_1 ?_
  refine q_lconst (v := 1) dX9_run_2 rfl ?_
  refine q_ldc2 (v := 500) dX9_run_3 (by decide +kernel) ?_
  refine q_callSd dX9_run_6 wX9_run_60 (n_in) rfl rfl (Nat.le_of_ble_eq_true rfl) ⟨⟨Nat.le_of_ble_eq_true rfl, Nat.le_of_ble_eq_true rfl⟩, Nat.le_of_ble_eq_true rfl, Nat.le_of_ble_eq_true rfl⟩ ?_
  refine q_if_ne 14 dX9_run_9 (by decide) (fun z => absurd (by rw [inB_no (a := 1) (b := 500) (by decide) (by decide) hb]; rfl) z) (fun _ => ?_)
  refine q_iconst (v := (-1)) dX9_run_12 rfl ?_
  exact q_iret dX9_run_13 rfl (Nat.zero_le _) (Nat.zero_le _) (⟨rfl, rfl, rfl⟩)
theorem n_run_few {q : Nat} (hq0 : 1 ≤ q) (hq : q ≤ 500) (hM : hat as h m (mo tc r z)) (hn : z 3 = nI n) (hn2 : n < 2) : Det Γ l mX9_run rX9_run [.ref m, .int (nI q)] as h (some (.int (-2))) h := by
  refine Con.of (by decide +kernel) rfl rfl (Nat.le_of_ble_eq_true rfl) ?_
  refine q_iload_n dX9_run_0 rfl rfl ?_
  refine q_i2l dX9_run_1 ?_
  refine q_lconst (v := 1) dX9_run_2 rfl ?_
  refine q_ldc2 (v := 500) dX9_run_3 (by decide +kernel) ?_
  refine q_callSd dX9_run_6 wX9_run_60 (n_in) rfl rfl (Nat.le_of_ble_eq_true rfl) ⟨⟨Nat.le_of_ble_eq_true rfl, Nat.le_of_ble_eq_true rfl⟩, Nat.le_of_ble_eq_true rfl, Nat.le_of_ble_eq_true rfl⟩ ?_
  refine q_if_ne 14 dX9_run_9 (by decide) (fun _ => ?_) (fun z => absurd z (by rw [inB_nI (a := 1) (b := 500) (by decide) (by decide) hq0 hq (by omega)]; decide))
  refine q_aload_n dX9_run_14 rfl rfl ?_
  refine q_get dX9_run_15 fX9_run_111 (hM) rfl ?_
  refine q_iconst (v := 2) dX9_run_18 rfl ?_
  refine q_icmp_ge 25 dX9_run_19 (by decide) (fun z => absurd z (by rw [hn]; exact nI_ge (b := 2) hn2 (by omega))) (fun _ => ?_)
  refine q_bipush (v := (-2)) dX9_run_22 rfl ?_
  exact q_iret dX9_run_24 rfl (Nat.zero_le _) (Nat.zero_le _) (⟨rfl, rfl, rfl⟩)
theorem moveF_le {f : Nat → Int32} {i j : Nat} (hf : ∀ k, k < 80 → ¬ f k < 0 ∧ f k ≤ 99) (hi : i < 80) (hj : j < 80) (h0 : 0 < f i) (h1 : f j < 99) : ∀ k, k < 80 → ¬ moveF f i j k < 0 ∧ moveF f i j k ≤ 99 := by
  have e0 : (0 : Int32).toInt = 0 := by decide
  have e1 : (99 : Int32).toInt = 99 := by decide
  have sub1 : ∀ x : Int32, 0 < x → x ≤ 99 → ¬ (x - 1) < 0 ∧ (x - 1) ≤ 99 ∧ (x - 1).toInt = x.toInt - 1 := by
    intro x hx hx2
    obtain ⟨q, hq, rfl⟩ := nI_of2 (x := x) (M := 99) (n := 99) e1 (fun q => Int32.lt_irrefl (Int32.lt_trans hx q)) hx2
    have hq0 : 0 < q := Nat.pos_of_ne_zero (fun e => by rw [e] at hx; exact Int32.lt_irrefl hx)
    rw [show nI q - 1 = nI (q - 1) from pk_sub (b := 1) hq0]
    refine ⟨nI_pos (by omega), nI_le (b := 99) (by omega) (by omega), ?_⟩
    rw [nI_toInt (by omega), nI_toInt (by omega)]
    omega
  have add1 : ∀ x : Int32, ¬ x < 0 → x < 99 → ¬ (x + 1) < 0 ∧ (x + 1) ≤ 99 := by
    intro x hx hx2
    obtain ⟨q, hq, rfl⟩ := nI_of2 (x := x) (M := 99) (n := 99) e1 hx (Int32.le_of_lt hx2)
    have hq0 : q < 99 := (nI_ltI (b := 99) (by omega) (by omega)).mp hx2
    rw [nI_s]
    exact ⟨nI_pos (by omega), nI_le (b := 99) (by omega) (by omega)⟩
  intro k hk
  unfold moveF
  by_cases hkj : k = j
  · subst hkj
    rw [pk_us]
    by_cases hki : k = i
    · subst hki
      rw [pk_us]
      have := sub1 (f k) h0 (hf k hk).2
      refine add1 _ this.1 ?_
      rw [Int32.lt_iff_toInt_lt, this.2.2, e1]
      have h3 := (hf k hk).2
      rw [Int32.le_iff_toInt_le, e1] at h3
      omega
    · rw [pk_un hki]
      exact add1 _ (hf k hk).1 h1
  · rw [pk_un hkj]
    by_cases hki : k = i
    · subst hki
      rw [pk_us]
      exact ⟨(sub1 (f k) h0 (hf k hk).2).1, (sub1 (f k) h0 (hf k hk).2).2.1⟩
    · rw [pk_un hki]
      exact hf k hk
end

