/-! LIGHTCOINS (X8): days, clips -/
abbrev mX8_gain : mT := (yX8_gain, RX8, cX8_gain, 5, (some .long), wsX8_gain)
abbrev rX8_gain : Room := { frames := 5, cells := 0, slots := 0, locals := 111 }
theorem dX8_gain_0 : decode cX8_gain 0 = .ok (.iload_n 3, 1) := by decide +kernel
theorem dX8_gain_1 : decode cX8_gain 1 = .ok (.ifCond .lt 25, 3) := by decide +kernel
theorem dX8_gain_4 : decode cX8_gain 4 = .ok (.iload_n 3, 1) := by decide +kernel
theorem dX8_gain_5 : decode cX8_gain 5 = .ok (.iconst 1, 1) := by decide +kernel
theorem dX8_gain_6 : decode cX8_gain 6 = .ok (.if_icmp .gt 20, 3) := by decide +kernel
theorem dX8_gain_9 : decode cX8_gain 9 = .ok (.iload 4, 2) := by decide +kernel
theorem dX8_gain_11 : decode cX8_gain 11 = .ok (.invokestatic 164, 3) := by decide +kernel
theorem dX8_gain_14 : decode cX8_gain 14 = .ok (.ifCond .eq 12, 3) := by decide +kernel
theorem dX8_gain_17 : decode cX8_gain 17 = .ok (.aload_n 0, 1) := by decide +kernel
theorem dX8_gain_18 : decode cX8_gain 18 = .ok (.iload_n 1, 1) := by decide +kernel
theorem dX8_gain_19 : decode cX8_gain 19 = .ok (.iload_n 2, 1) := by decide +kernel
theorem dX8_gain_20 : decode cX8_gain 20 = .ok (.invokevirtual 167, 3) := by decide +kernel
theorem dX8_gain_23 : decode cX8_gain 23 = .ok (.ifCond .eq 7, 3) := by decide +kernel
theorem dX8_gain_26 : decode cX8_gain 26 = .ok (.ldc2_w 170, 3) := by decide +kernel
theorem dX8_gain_29 : decode cX8_gain 29 = .ok (.lreturn, 1) := by decide +kernel
theorem dX8_gain_30 : decode cX8_gain 30 = .ok (.aload_n 0, 1) := by decide +kernel
theorem dX8_gain_31 : decode cX8_gain 31 = .ok (.getfield 43, 3) := by decide +kernel
theorem dX8_gain_34 : decode cX8_gain 34 = .ok (.aload_n 0, 1) := by decide +kernel
theorem dX8_gain_35 : decode cX8_gain 35 = .ok (.getfield 19, 3) := by decide +kernel
theorem dX8_gain_38 : decode cX8_gain 38 = .ok (.iload_n 1, 1) := by decide +kernel
theorem dX8_gain_39 : decode cX8_gain 39 = .ok (.aload_n 0, 1) := by decide +kernel
theorem dX8_gain_40 : decode cX8_gain 40 = .ok (.getfield 29, 3) := by decide +kernel
theorem dX8_gain_43 : decode cX8_gain 43 = .ok (.iconst 1, 1) := by decide +kernel
theorem dX8_gain_44 : decode cX8_gain 44 = .ok (.invokevirtual 172, 3) := by decide +kernel
theorem dX8_gain_47 : decode cX8_gain 47 = .ok (.invokevirtual 175, 3) := by decide +kernel
theorem dX8_gain_50 : decode cX8_gain 50 = .ok (.iload_n 3, 1) := by decide +kernel
theorem dX8_gain_51 : decode cX8_gain 51 = .ok (.ifCond .ne 36, 3) := by decide +kernel
theorem dX8_gain_54 : decode cX8_gain 54 = .ok (.iload_n 2, 1) := by decide +kernel
theorem dX8_gain_55 : decode cX8_gain 55 = .ok (.iload_n 1, 1) := by decide +kernel
theorem dX8_gain_56 : decode cX8_gain 56 = .ok (.if_icmp .ne 9, 3) := by decide +kernel
theorem dX8_gain_59 : decode cX8_gain 59 = .ok (.ldc2_w 170, 3) := by decide +kernel
theorem dX8_gain_62 : decode cX8_gain 62 = .ok (.goto 24, 3) := by decide +kernel
theorem dX8_gain_65 : decode cX8_gain 65 = .ok (.aload_n 0, 1) := by decide +kernel
theorem dX8_gain_66 : decode cX8_gain 66 = .ok (.getfield 43, 3) := by decide +kernel
theorem dX8_gain_69 : decode cX8_gain 69 = .ok (.iload_n 2, 1) := by decide +kernel
theorem dX8_gain_70 : decode cX8_gain 70 = .ok (.invokevirtual 179, 3) := by decide +kernel
theorem dX8_gain_73 : decode cX8_gain 73 = .ok (.aload_n 0, 1) := by decide +kernel
theorem dX8_gain_74 : decode cX8_gain 74 = .ok (.getfield 43, 3) := by decide +kernel
theorem dX8_gain_77 : decode cX8_gain 77 = .ok (.iload_n 2, 1) := by decide +kernel
theorem dX8_gain_78 : decode cX8_gain 78 = .ok (.invokevirtual 183, 3) := by decide +kernel
theorem dX8_gain_81 : decode cX8_gain 81 = .ok (.iload 4, 2) := by decide +kernel
theorem dX8_gain_83 : decode cX8_gain 83 = .ok (.invokestatic 186, 3) := by decide +kernel
theorem dX8_gain_86 : decode cX8_gain 86 = .ok (.lreturn, 1) := by decide +kernel
theorem dX8_gain_87 : decode cX8_gain 87 = .ok (.iload_n 2, 1) := by decide +kernel
theorem dX8_gain_88 : decode cX8_gain 88 = .ok (.ifCond .ne 9, 3) := by decide +kernel
theorem dX8_gain_91 : decode cX8_gain 91 = .ok (.ldc2_w 170, 3) := by decide +kernel
theorem dX8_gain_94 : decode cX8_gain 94 = .ok (.goto 24, 3) := by decide +kernel
theorem dX8_gain_97 : decode cX8_gain 97 = .ok (.aload_n 0, 1) := by decide +kernel
theorem dX8_gain_98 : decode cX8_gain 98 = .ok (.getfield 43, 3) := by decide +kernel
theorem dX8_gain_101 : decode cX8_gain 101 = .ok (.iload_n 2, 1) := by decide +kernel
theorem dX8_gain_102 : decode cX8_gain 102 = .ok (.invokevirtual 190, 3) := by decide +kernel
theorem dX8_gain_105 : decode cX8_gain 105 = .ok (.aload_n 0, 1) := by decide +kernel
theorem dX8_gain_106 : decode cX8_gain 106 = .ok (.getfield 43, 3) := by decide +kernel
theorem dX8_gain_109 : decode cX8_gain 109 = .ok (.iload_n 2, 1) := by decide +kernel
theorem dX8_gain_110 : decode cX8_gain 110 = .ok (.invokevirtual 193, 3) := by decide +kernel
theorem dX8_gain_113 : decode cX8_gain 113 = .ok (.iload 4, 2) := by decide +kernel
theorem dX8_gain_115 : decode cX8_gain 115 = .ok (.invokestatic 186, 3) := by decide +kernel
theorem dX8_gain_118 : decode cX8_gain 118 = .ok (.lreturn, 1) := by decide +kernel
theorem iX8_gain_8 : ∀ w ∈ wsX80, w ∈ wsX8_gain := fun w h => List.mem_cons_of_mem _ (List.mem_append_left _ (List.mem_append_left _ (List.mem_append_left _ (List.mem_append_right _ h))))
theorem fX8_gain_19 : FL mX8_gain 19 8 1 := ⟨_, _, _, rfl, by decide, iX8_gain_8, by decide +kernel⟩
theorem fX8_gain_29 : FL mX8_gain 29 8 3 := ⟨_, _, _, rfl, by decide, iX8_gain_8, by decide +kernel⟩
theorem fX8_gain_43 : FL mX8_gain 43 8 5 := ⟨_, _, _, rfl, by decide, iX8_gain_8, by decide +kernel⟩
set_option maxRecDepth 20000 in
theorem ggX8_gain_X8_isUpperOrLower : GoodIn wsX8_gain wsX8_isUpperOrLower := goodIn_r _ [8] (by decide +kernel) (by decide +kernel)
set_option maxRecDepth 20000 in
theorem gX8_gain_X8_isUpperOrLower : GoodIn wsX8_gain (va_wsS RX8 164 yX8_isUpperOrLower wsX8_isUpperOrLower) := goodIn_app (goodIn_of _ (by decide +kernel)) ggX8_gain_X8_isUpperOrLower
theorem wX8_gain_164 : CWS mX8_gain 164 mX8_isUpperOrLower 1 := ⟨gX8_gain_X8_isUpperOrLower, ⟨_, rfl⟩, by decide +kernel, by decide +kernel, by decide +kernel⟩
set_option maxRecDepth 20000 in
theorem ggX8_gain_X8_dayRefusal : GoodIn wsX8_gain wsX8_dayRefusal := goodIn_r _ [12, 3, 13, 14, 15, 16, 17, 18, 19, 20, 21, 22, 23, 24, 25, 26, 27, 28, 29, 30, 81, 82, 83, 84, 85, 86, 87, 88, 89, 90, 91, 92, 93, 94] (by decide +kernel) (by decide +kernel)
set_option maxRecDepth 20000 in
theorem gX8_gain_X8_dayRefusal : GoodIn wsX8_gain (wsV RX8 167 RX8 yX8_dayRefusal wsX8_dayRefusal) := goodIn_app (goodIn_of _ (by decide +kernel)) ggX8_gain_X8_dayRefusal
theorem wX8_gain_167 : CWV mX8_gain 167 mX8_dayRefusal 2 := ⟨gX8_gain_X8_dayRefusal, ⟨_, rfl⟩, rfl, by decide +kernel, by decide +kernel, by decide +kernel⟩
set_option maxRecDepth 20000 in
theorem ggX8_gain_X7_of : GoodIn wsX8_gain wsX7_of := goodIn_r _ [35, 36, 95] (by decide +kernel) (by decide +kernel)
set_option maxRecDepth 20000 in
theorem gX8_gain_X7_of : GoodIn wsX8_gain (wsV RX8 172 RX7 yX7_of wsX7_of) := goodIn_app (goodIn_of _ (by decide +kernel)) ggX8_gain_X7_of
theorem wX8_gain_172 : CWV mX8_gain 172 mX7_of 1 := ⟨gX8_gain_X7_of, ⟨_, rfl⟩, rfl, by decide +kernel, by decide +kernel, by decide +kernel⟩
set_option maxRecDepth 20000 in
theorem ggX8_gain_X0_lay : GoodIn wsX8_gain wsX0_lay := goodIn_r _ [41, 42, 43, 44, 45, 46, 47, 48, 49, 16, 50, 26, 27, 28, 29, 30, 51, 52, 53, 40, 54, 96, 97, 98, 99, 100, 94] (by decide +kernel) (by decide +kernel)
set_option maxRecDepth 20000 in
theorem gX8_gain_X0_lay : GoodIn wsX8_gain (wsV RX8 175 RX0 yX0_lay wsX0_lay) := goodIn_app (goodIn_of _ (by decide +kernel)) ggX8_gain_X0_lay
theorem wX8_gain_175 : CWV mX8_gain 175 mX0_lay 3 := ⟨gX8_gain_X0_lay, ⟨_, rfl⟩, rfl, by decide +kernel, by decide +kernel, by decide +kernel⟩
set_option maxRecDepth 20000 in
theorem ggX8_gain_X0_taleUpper : GoodIn wsX8_gain wsX0_taleUpper := goodIn_r _ [58, 46, 42, 96, 97, 98, 99, 100] (by decide +kernel) (by decide +kernel)
set_option maxRecDepth 20000 in
theorem gX8_gain_X0_taleUpper : GoodIn wsX8_gain (wsV RX8 179 RX0 yX0_taleUpper wsX0_taleUpper) := goodIn_app (goodIn_of _ (by decide +kernel)) ggX8_gain_X0_taleUpper
theorem wX8_gain_179 : CWV mX8_gain 179 mX0_taleUpper 1 := ⟨gX8_gain_X0_taleUpper, ⟨_, rfl⟩, rfl, by decide +kernel, by decide +kernel, by decide +kernel⟩
set_option maxRecDepth 20000 in
theorem ggX8_gain_X0_taleLower : GoodIn wsX8_gain wsX0_taleLower := goodIn_r _ [62, 42, 96, 97, 98, 99, 100] (by decide +kernel) (by decide +kernel)
set_option maxRecDepth 20000 in
theorem gX8_gain_X0_taleLower : GoodIn wsX8_gain (wsV RX8 183 RX0 yX0_taleLower wsX0_taleLower) := goodIn_app (goodIn_of _ (by decide +kernel)) ggX8_gain_X0_taleLower
theorem wX8_gain_183 : CWV mX8_gain 183 mX0_taleLower 1 := ⟨gX8_gain_X0_taleLower, ⟨_, rfl⟩, rfl, by decide +kernel, by decide +kernel, by decide +kernel⟩
set_option maxRecDepth 20000 in
theorem ggX8_gain_X8_leastTerms : GoodIn wsX8_gain wsX8_leastTerms := goodIn_r _ [65, 66, 67, 68, 69, 1, 70, 71, 7, 72] (by decide +kernel) (by decide +kernel)
set_option maxRecDepth 20000 in
theorem gX8_gain_X8_leastTerms : GoodIn wsX8_gain (va_wsS RX8 186 yX8_leastTerms wsX8_leastTerms) := goodIn_app (goodIn_of _ (by decide +kernel)) ggX8_gain_X8_leastTerms
theorem wX8_gain_186 : CWS mX8_gain 186 mX8_leastTerms 3 := ⟨gX8_gain_X8_leastTerms, ⟨_, rfl⟩, by decide +kernel, by decide +kernel, by decide +kernel⟩
set_option maxRecDepth 20000 in
theorem ggX8_gain_X0_lookUpper : GoodIn wsX8_gain wsX0_lookUpper := goodIn_r _ [76, 45, 43, 96, 97, 98, 99, 100] (by decide +kernel) (by decide +kernel)
set_option maxRecDepth 20000 in
theorem gX8_gain_X0_lookUpper : GoodIn wsX8_gain (wsV RX8 190 RX0 yX0_lookUpper wsX0_lookUpper) := goodIn_app (goodIn_of _ (by decide +kernel)) ggX8_gain_X0_lookUpper
theorem wX8_gain_190 : CWV mX8_gain 190 mX0_lookUpper 1 := ⟨gX8_gain_X0_lookUpper, ⟨_, rfl⟩, rfl, by decide +kernel, by decide +kernel, by decide +kernel⟩
set_option maxRecDepth 20000 in
theorem ggX8_gain_X0_lookLower : GoodIn wsX8_gain wsX0_lookLower := goodIn_r _ [80] (by decide +kernel) (by decide +kernel)
set_option maxRecDepth 20000 in
theorem gX8_gain_X0_lookLower : GoodIn wsX8_gain (wsV RX8 193 RX0 yX0_lookLower wsX0_lookLower) := goodIn_app (goodIn_of _ (by decide +kernel)) ggX8_gain_X0_lookLower
theorem wX8_gain_193 : CWV mX8_gain 193 mX0_lookLower 1 := ⟨gX8_gain_X0_lookLower, ⟨_, rfl⟩, rfl, by decide +kernel, by decide +kernel, by decide +kernel⟩
abbrev mX8_rests : mT := (yX8_rests, RX8, cX8_rests, 3, (some .int), wsX8_rests)
abbrev rX8_rests : Room := { frames := 5, cells := 0, slots := 0, locals := 111 }
theorem dX8_rests_0 : decode cX8_rests 0 = .ok (.aload_n 0, 1) := by decide +kernel
theorem dX8_rests_1 : decode cX8_rests 1 = .ok (.iload_n 1, 1) := by decide +kernel
theorem dX8_rests_2 : decode cX8_rests 2 = .ok (.iconst 0, 1) := by decide +kernel
theorem dX8_rests_3 : decode cX8_rests 3 = .ok (.invokevirtual 167, 3) := by decide +kernel
theorem dX8_rests_6 : decode cX8_rests 6 = .ok (.istore_n 2, 1) := by decide +kernel
theorem dX8_rests_7 : decode cX8_rests 7 = .ok (.iload_n 2, 1) := by decide +kernel
theorem dX8_rests_8 : decode cX8_rests 8 = .ok (.ifCond .eq 5, 3) := by decide +kernel
theorem dX8_rests_11 : decode cX8_rests 11 = .ok (.iload_n 2, 1) := by decide +kernel
theorem dX8_rests_12 : decode cX8_rests 12 = .ok (.ireturn, 1) := by decide +kernel
theorem dX8_rests_13 : decode cX8_rests 13 = .ok (.aload_n 0, 1) := by decide +kernel
theorem dX8_rests_14 : decode cX8_rests 14 = .ok (.getfield 43, 3) := by decide +kernel
theorem dX8_rests_17 : decode cX8_rests 17 = .ok (.aload_n 0, 1) := by decide +kernel
theorem dX8_rests_18 : decode cX8_rests 18 = .ok (.getfield 19, 3) := by decide +kernel
theorem dX8_rests_21 : decode cX8_rests 21 = .ok (.iload_n 1, 1) := by decide +kernel
theorem dX8_rests_22 : decode cX8_rests 22 = .ok (.aload_n 0, 1) := by decide +kernel
theorem dX8_rests_23 : decode cX8_rests 23 = .ok (.getfield 29, 3) := by decide +kernel
theorem dX8_rests_26 : decode cX8_rests 26 = .ok (.iconst 1, 1) := by decide +kernel
theorem dX8_rests_27 : decode cX8_rests 27 = .ok (.invokevirtual 172, 3) := by decide +kernel
theorem dX8_rests_30 : decode cX8_rests 30 = .ok (.invokevirtual 175, 3) := by decide +kernel
theorem dX8_rests_33 : decode cX8_rests 33 = .ok (.aload_n 0, 1) := by decide +kernel
theorem dX8_rests_34 : decode cX8_rests 34 = .ok (.getfield 43, 3) := by decide +kernel
theorem dX8_rests_37 : decode cX8_rests 37 = .ok (.invokevirtual 196, 3) := by decide +kernel
theorem dX8_rests_40 : decode cX8_rests 40 = .ok (.ireturn, 1) := by decide +kernel
theorem iX8_rests_8 : ∀ w ∈ wsX80, w ∈ wsX8_rests := fun w h => List.mem_cons_of_mem _ (List.mem_append_left _ (List.mem_append_left _ (List.mem_append_left _ (List.mem_append_right _ h))))
theorem fX8_rests_19 : FL mX8_rests 19 8 1 := ⟨_, _, _, rfl, by decide, iX8_rests_8, by decide +kernel⟩
theorem fX8_rests_29 : FL mX8_rests 29 8 3 := ⟨_, _, _, rfl, by decide, iX8_rests_8, by decide +kernel⟩
theorem fX8_rests_43 : FL mX8_rests 43 8 5 := ⟨_, _, _, rfl, by decide, iX8_rests_8, by decide +kernel⟩
set_option maxRecDepth 20000 in
theorem ggX8_rests_X8_dayRefusal : GoodIn wsX8_rests wsX8_dayRefusal := goodIn_r _ [8, 2, 9, 10, 11, 12, 13, 14, 15, 16, 17, 18, 19, 20, 21, 22, 23, 24, 25, 26, 83, 84, 85, 86, 87, 88, 89, 90, 91, 92, 93, 94, 95, 96] (by decide +kernel) (by decide +kernel)
set_option maxRecDepth 20000 in
theorem gX8_rests_X8_dayRefusal : GoodIn wsX8_rests (wsV RX8 167 RX8 yX8_dayRefusal wsX8_dayRefusal) := goodIn_app (goodIn_of _ (by decide +kernel)) ggX8_rests_X8_dayRefusal
theorem wX8_rests_167 : CWV mX8_rests 167 mX8_dayRefusal 2 := ⟨gX8_rests_X8_dayRefusal, ⟨_, rfl⟩, rfl, by decide +kernel, by decide +kernel, by decide +kernel⟩
set_option maxRecDepth 20000 in
theorem ggX8_rests_X7_of : GoodIn wsX8_rests wsX7_of := goodIn_r _ [31, 32, 97] (by decide +kernel) (by decide +kernel)
set_option maxRecDepth 20000 in
theorem gX8_rests_X7_of : GoodIn wsX8_rests (wsV RX8 172 RX7 yX7_of wsX7_of) := goodIn_app (goodIn_of _ (by decide +kernel)) ggX8_rests_X7_of
theorem wX8_rests_172 : CWV mX8_rests 172 mX7_of 1 := ⟨gX8_rests_X7_of, ⟨_, rfl⟩, rfl, by decide +kernel, by decide +kernel, by decide +kernel⟩
set_option maxRecDepth 20000 in
theorem ggX8_rests_X0_lay : GoodIn wsX8_rests wsX0_lay := goodIn_r _ [37, 38, 39, 40, 41, 42, 43, 44, 45, 12, 46, 22, 23, 24, 25, 26, 47, 48, 49, 36, 50, 98, 99, 100, 101, 102, 96] (by decide +kernel) (by decide +kernel)
set_option maxRecDepth 20000 in
theorem gX8_rests_X0_lay : GoodIn wsX8_rests (wsV RX8 175 RX0 yX0_lay wsX0_lay) := goodIn_app (goodIn_of _ (by decide +kernel)) ggX8_rests_X0_lay
theorem wX8_rests_175 : CWV mX8_rests 175 mX0_lay 3 := ⟨gX8_rests_X0_lay, ⟨_, rfl⟩, rfl, by decide +kernel, by decide +kernel, by decide +kernel⟩
set_option maxRecDepth 20000 in
theorem ggX8_rests_X0_allThatRest : GoodIn wsX8_rests wsX0_allThatRest := goodIn_r _ [54, 38, 55, 56, 57, 36, 58, 59, 60, 61, 62, 63, 64, 65, 66, 41, 39, 67, 68, 69, 70, 71, 72, 73, 74, 42, 75, 76, 77, 78, 79, 80, 81, 82, 98, 99, 100, 101, 102] (by decide +kernel) (by decide +kernel)
set_option maxRecDepth 20000 in
theorem gX8_rests_X0_allThatRest : GoodIn wsX8_rests (wsV RX8 196 RX0 yX0_allThatRest wsX0_allThatRest) := goodIn_app (goodIn_of _ (by decide +kernel)) ggX8_rests_X0_allThatRest
theorem wX8_rests_196 : CWV mX8_rests 196 mX0_allThatRest 0 := ⟨gX8_rests_X0_allThatRest, ⟨_, rfl⟩, rfl, by decide +kernel, by decide +kernel, by decide +kernel⟩
abbrev mX8_goes : mT := (yX8_goes, RX8, cX8_goes, 4, (some .int), wsX8_goes)
abbrev rX8_goes : Room := { frames := 5, cells := 0, slots := 0, locals := 111 }
theorem dX8_goes_0 : decode cX8_goes 0 = .ok (.aload_n 0, 1) := by decide +kernel
theorem dX8_goes_1 : decode cX8_goes 1 = .ok (.iload_n 1, 1) := by decide +kernel
theorem dX8_goes_2 : decode cX8_goes 2 = .ok (.iload_n 2, 1) := by decide +kernel
theorem dX8_goes_3 : decode cX8_goes 3 = .ok (.invokevirtual 167, 3) := by decide +kernel
theorem dX8_goes_6 : decode cX8_goes 6 = .ok (.istore_n 3, 1) := by decide +kernel
theorem dX8_goes_7 : decode cX8_goes 7 = .ok (.iload_n 3, 1) := by decide +kernel
theorem dX8_goes_8 : decode cX8_goes 8 = .ok (.ifCond .eq 5, 3) := by decide +kernel
theorem dX8_goes_11 : decode cX8_goes 11 = .ok (.iload_n 3, 1) := by decide +kernel
theorem dX8_goes_12 : decode cX8_goes 12 = .ok (.ireturn, 1) := by decide +kernel
theorem dX8_goes_13 : decode cX8_goes 13 = .ok (.aload_n 0, 1) := by decide +kernel
theorem dX8_goes_14 : decode cX8_goes 14 = .ok (.getfield 43, 3) := by decide +kernel
theorem dX8_goes_17 : decode cX8_goes 17 = .ok (.aload_n 0, 1) := by decide +kernel
theorem dX8_goes_18 : decode cX8_goes 18 = .ok (.getfield 19, 3) := by decide +kernel
theorem dX8_goes_21 : decode cX8_goes 21 = .ok (.iload_n 1, 1) := by decide +kernel
theorem dX8_goes_22 : decode cX8_goes 22 = .ok (.aload_n 0, 1) := by decide +kernel
theorem dX8_goes_23 : decode cX8_goes 23 = .ok (.getfield 29, 3) := by decide +kernel
theorem dX8_goes_26 : decode cX8_goes 26 = .ok (.iconst 1, 1) := by decide +kernel
theorem dX8_goes_27 : decode cX8_goes 27 = .ok (.invokevirtual 172, 3) := by decide +kernel
theorem dX8_goes_30 : decode cX8_goes 30 = .ok (.invokevirtual 175, 3) := by decide +kernel
theorem dX8_goes_33 : decode cX8_goes 33 = .ok (.aload_n 0, 1) := by decide +kernel
theorem dX8_goes_34 : decode cX8_goes 34 = .ok (.getfield 43, 3) := by decide +kernel
theorem dX8_goes_37 : decode cX8_goes 37 = .ok (.iload_n 2, 1) := by decide +kernel
theorem dX8_goes_38 : decode cX8_goes 38 = .ok (.invokevirtual 200, 3) := by decide +kernel
theorem dX8_goes_41 : decode cX8_goes 41 = .ok (.ireturn, 1) := by decide +kernel
theorem iX8_goes_8 : ∀ w ∈ wsX80, w ∈ wsX8_goes := fun w h => List.mem_cons_of_mem _ (List.mem_append_left _ (List.mem_append_left _ (List.mem_append_left _ (List.mem_append_right _ h))))
theorem fX8_goes_19 : FL mX8_goes 19 8 1 := ⟨_, _, _, rfl, by decide, iX8_goes_8, by decide +kernel⟩
theorem fX8_goes_29 : FL mX8_goes 29 8 3 := ⟨_, _, _, rfl, by decide, iX8_goes_8, by decide +kernel⟩
theorem fX8_goes_43 : FL mX8_goes 43 8 5 := ⟨_, _, _, rfl, by decide, iX8_goes_8, by decide +kernel⟩
set_option maxRecDepth 20000 in
theorem ggX8_goes_X8_dayRefusal : GoodIn wsX8_goes wsX8_dayRefusal := goodIn_r _ [8, 2, 9, 10, 11, 12, 13, 14, 15, 16, 17, 18, 19, 20, 21, 22, 23, 24, 25, 26, 83, 84, 85, 86, 87, 88, 89, 90, 91, 92, 93, 94, 95, 96] (by decide +kernel) (by decide +kernel)
set_option maxRecDepth 20000 in
theorem gX8_goes_X8_dayRefusal : GoodIn wsX8_goes (wsV RX8 167 RX8 yX8_dayRefusal wsX8_dayRefusal) := goodIn_app (goodIn_of _ (by decide +kernel)) ggX8_goes_X8_dayRefusal
theorem wX8_goes_167 : CWV mX8_goes 167 mX8_dayRefusal 2 := ⟨gX8_goes_X8_dayRefusal, ⟨_, rfl⟩, rfl, by decide +kernel, by decide +kernel, by decide +kernel⟩
set_option maxRecDepth 20000 in
theorem ggX8_goes_X7_of : GoodIn wsX8_goes wsX7_of := goodIn_r _ [31, 32, 97] (by decide +kernel) (by decide +kernel)
set_option maxRecDepth 20000 in
theorem gX8_goes_X7_of : GoodIn wsX8_goes (wsV RX8 172 RX7 yX7_of wsX7_of) := goodIn_app (goodIn_of _ (by decide +kernel)) ggX8_goes_X7_of
theorem wX8_goes_172 : CWV mX8_goes 172 mX7_of 1 := ⟨gX8_goes_X7_of, ⟨_, rfl⟩, rfl, by decide +kernel, by decide +kernel, by decide +kernel⟩
set_option maxRecDepth 20000 in
theorem ggX8_goes_X0_lay : GoodIn wsX8_goes wsX0_lay := goodIn_r _ [37, 38, 39, 40, 41, 42, 43, 44, 45, 12, 46, 22, 23, 24, 25, 26, 47, 48, 49, 36, 50, 98, 99, 100, 101, 102, 96] (by decide +kernel) (by decide +kernel)
set_option maxRecDepth 20000 in
theorem gX8_goes_X0_lay : GoodIn wsX8_goes (wsV RX8 175 RX0 yX0_lay wsX0_lay) := goodIn_app (goodIn_of _ (by decide +kernel)) ggX8_goes_X0_lay
theorem wX8_goes_175 : CWV mX8_goes 175 mX0_lay 3 := ⟨gX8_goes_X0_lay, ⟨_, rfl⟩, rfl, by decide +kernel, by decide +kernel, by decide +kernel⟩
set_option maxRecDepth 20000 in
theorem ggX8_goes_X0_endFrom : GoodIn wsX8_goes wsX0_endFrom := goodIn_r _ [54, 38, 55, 56, 57, 36, 58, 59, 60, 61, 62, 63, 64, 65, 66, 41, 39, 67, 68, 69, 70, 71, 72, 73, 74, 42, 75, 76, 77, 78, 79, 80, 81, 82, 98, 99, 100, 101, 102] (by decide +kernel) (by decide +kernel)
set_option maxRecDepth 20000 in
theorem gX8_goes_X0_endFrom : GoodIn wsX8_goes (wsV RX8 200 RX0 yX0_endFrom wsX0_endFrom) := goodIn_app (goodIn_of _ (by decide +kernel)) ggX8_goes_X0_endFrom
theorem wX8_goes_200 : CWV mX8_goes 200 mX0_endFrom 1 := ⟨gX8_goes_X0_endFrom, ⟨_, rfl⟩, rfl, by decide +kernel, by decide +kernel, by decide +kernel⟩
abbrev mX8_tip : mT := (yX8_tip, RX8, cX8_tip, 3, (some .int), wsX8_tip)
abbrev rX8_tip : Room := { frames := 5, cells := 0, slots := 0, locals := 111 }
theorem dX8_tip_0 : decode cX8_tip 0 = .ok (.aload_n 0, 1) := by decide +kernel
theorem dX8_tip_1 : decode cX8_tip 1 = .ok (.iload_n 1, 1) := by decide +kernel
theorem dX8_tip_2 : decode cX8_tip 2 = .ok (.iconst 0, 1) := by decide +kernel
theorem dX8_tip_3 : decode cX8_tip 3 = .ok (.invokevirtual 167, 3) := by decide +kernel
theorem dX8_tip_6 : decode cX8_tip 6 = .ok (.istore_n 2, 1) := by decide +kernel
theorem dX8_tip_7 : decode cX8_tip 7 = .ok (.iload_n 2, 1) := by decide +kernel
theorem dX8_tip_8 : decode cX8_tip 8 = .ok (.ifCond .eq 5, 3) := by decide +kernel
theorem dX8_tip_11 : decode cX8_tip 11 = .ok (.iload_n 2, 1) := by decide +kernel
theorem dX8_tip_12 : decode cX8_tip 12 = .ok (.ireturn, 1) := by decide +kernel
theorem dX8_tip_13 : decode cX8_tip 13 = .ok (.aload_n 0, 1) := by decide +kernel
theorem dX8_tip_14 : decode cX8_tip 14 = .ok (.getfield 43, 3) := by decide +kernel
theorem dX8_tip_17 : decode cX8_tip 17 = .ok (.aload_n 0, 1) := by decide +kernel
theorem dX8_tip_18 : decode cX8_tip 18 = .ok (.getfield 19, 3) := by decide +kernel
theorem dX8_tip_21 : decode cX8_tip 21 = .ok (.iload_n 1, 1) := by decide +kernel
theorem dX8_tip_22 : decode cX8_tip 22 = .ok (.aload_n 0, 1) := by decide +kernel
theorem dX8_tip_23 : decode cX8_tip 23 = .ok (.getfield 29, 3) := by decide +kernel
theorem dX8_tip_26 : decode cX8_tip 26 = .ok (.iconst 1, 1) := by decide +kernel
theorem dX8_tip_27 : decode cX8_tip 27 = .ok (.invokevirtual 172, 3) := by decide +kernel
theorem dX8_tip_30 : decode cX8_tip 30 = .ok (.invokevirtual 175, 3) := by decide +kernel
theorem dX8_tip_33 : decode cX8_tip 33 = .ok (.aload_n 0, 1) := by decide +kernel
theorem dX8_tip_34 : decode cX8_tip 34 = .ok (.getfield 43, 3) := by decide +kernel
theorem dX8_tip_37 : decode cX8_tip 37 = .ok (.invokevirtual 203, 3) := by decide +kernel
theorem dX8_tip_40 : decode cX8_tip 40 = .ok (.ireturn, 1) := by decide +kernel
theorem iX8_tip_8 : ∀ w ∈ wsX80, w ∈ wsX8_tip := fun w h => List.mem_cons_of_mem _ (List.mem_append_left _ (List.mem_append_left _ (List.mem_append_left _ (List.mem_append_right _ h))))
theorem fX8_tip_19 : FL mX8_tip 19 8 1 := ⟨_, _, _, rfl, by decide, iX8_tip_8, by decide +kernel⟩
theorem fX8_tip_29 : FL mX8_tip 29 8 3 := ⟨_, _, _, rfl, by decide, iX8_tip_8, by decide +kernel⟩
theorem fX8_tip_43 : FL mX8_tip 43 8 5 := ⟨_, _, _, rfl, by decide, iX8_tip_8, by decide +kernel⟩
set_option maxRecDepth 20000 in
theorem ggX8_tip_X8_dayRefusal : GoodIn wsX8_tip wsX8_dayRefusal := goodIn_r _ [8, 2, 9, 10, 11, 12, 13, 14, 15, 16, 17, 18, 19, 20, 21, 22, 23, 24, 25, 26, 87, 88, 89, 90, 91, 92, 93, 94, 95, 96, 97, 98, 99, 100] (by decide +kernel) (by decide +kernel)
set_option maxRecDepth 20000 in
theorem gX8_tip_X8_dayRefusal : GoodIn wsX8_tip (wsV RX8 167 RX8 yX8_dayRefusal wsX8_dayRefusal) := goodIn_app (goodIn_of _ (by decide +kernel)) ggX8_tip_X8_dayRefusal
theorem wX8_tip_167 : CWV mX8_tip 167 mX8_dayRefusal 2 := ⟨gX8_tip_X8_dayRefusal, ⟨_, rfl⟩, rfl, by decide +kernel, by decide +kernel, by decide +kernel⟩
set_option maxRecDepth 20000 in
theorem ggX8_tip_X7_of : GoodIn wsX8_tip wsX7_of := goodIn_r _ [31, 32, 101] (by decide +kernel) (by decide +kernel)
set_option maxRecDepth 20000 in
theorem gX8_tip_X7_of : GoodIn wsX8_tip (wsV RX8 172 RX7 yX7_of wsX7_of) := goodIn_app (goodIn_of _ (by decide +kernel)) ggX8_tip_X7_of
theorem wX8_tip_172 : CWV mX8_tip 172 mX7_of 1 := ⟨gX8_tip_X7_of, ⟨_, rfl⟩, rfl, by decide +kernel, by decide +kernel, by decide +kernel⟩
set_option maxRecDepth 20000 in
theorem ggX8_tip_X0_lay : GoodIn wsX8_tip wsX0_lay := goodIn_r _ [37, 38, 39, 40, 41, 42, 43, 44, 45, 12, 46, 22, 23, 24, 25, 26, 47, 48, 49, 36, 50, 102, 103, 104, 105, 106, 100] (by decide +kernel) (by decide +kernel)
set_option maxRecDepth 20000 in
theorem gX8_tip_X0_lay : GoodIn wsX8_tip (wsV RX8 175 RX0 yX0_lay wsX0_lay) := goodIn_app (goodIn_of _ (by decide +kernel)) ggX8_tip_X0_lay
theorem wX8_tip_175 : CWV mX8_tip 175 mX0_lay 3 := ⟨gX8_tip_X0_lay, ⟨_, rfl⟩, rfl, by decide +kernel, by decide +kernel, by decide +kernel⟩
set_option maxRecDepth 20000 in
theorem ggX8_tip_X0_leastThatEndsInAll : GoodIn wsX8_tip wsX0_leastThatEndsInAll := goodIn_r _ [54, 38, 55, 56, 57, 36, 58, 59, 60, 61, 62, 63, 64, 65, 66, 67, 68, 69, 70, 41, 39, 71, 72, 73, 74, 75, 76, 77, 78, 42, 79, 80, 81, 82, 83, 84, 85, 86, 102, 103, 104, 105, 106] (by decide +kernel) (by decide +kernel)
set_option maxRecDepth 20000 in
theorem gX8_tip_X0_leastThatEndsInAll : GoodIn wsX8_tip (wsV RX8 203 RX0 yX0_leastThatEndsInAll wsX0_leastThatEndsInAll) := goodIn_app (goodIn_of _ (by decide +kernel)) ggX8_tip_X0_leastThatEndsInAll
theorem wX8_tip_203 : CWV mX8_tip 203 mX0_leastThatEndsInAll 0 := ⟨gX8_tip_X0_leastThatEndsInAll, ⟨_, rfl⟩, rfl, by decide +kernel, by decide +kernel, by decide +kernel⟩
abbrev mX8_out : mT := (yX8_out, RX8, cX8_out, 4, (some .int), wsX8_out)
abbrev rX8_out : Room := { frames := 5, cells := 0, slots := 0, locals := 111 }
theorem dX8_out_0 : decode cX8_out 0 = .ok (.aload_n 0, 1) := by decide +kernel
theorem dX8_out_1 : decode cX8_out 1 = .ok (.iload_n 1, 1) := by decide +kernel
theorem dX8_out_2 : decode cX8_out 2 = .ok (.iload_n 2, 1) := by decide +kernel
theorem dX8_out_3 : decode cX8_out 3 = .ok (.invokevirtual 167, 3) := by decide +kernel
theorem dX8_out_6 : decode cX8_out 6 = .ok (.istore_n 3, 1) := by decide +kernel
theorem dX8_out_7 : decode cX8_out 7 = .ok (.iload_n 3, 1) := by decide +kernel
theorem dX8_out_8 : decode cX8_out 8 = .ok (.ifCond .eq 5, 3) := by decide +kernel
theorem dX8_out_11 : decode cX8_out 11 = .ok (.iload_n 3, 1) := by decide +kernel
theorem dX8_out_12 : decode cX8_out 12 = .ok (.ireturn, 1) := by decide +kernel
theorem dX8_out_13 : decode cX8_out 13 = .ok (.aload_n 0, 1) := by decide +kernel
theorem dX8_out_14 : decode cX8_out 14 = .ok (.getfield 43, 3) := by decide +kernel
theorem dX8_out_17 : decode cX8_out 17 = .ok (.aload_n 0, 1) := by decide +kernel
theorem dX8_out_18 : decode cX8_out 18 = .ok (.getfield 19, 3) := by decide +kernel
theorem dX8_out_21 : decode cX8_out 21 = .ok (.iload_n 1, 1) := by decide +kernel
theorem dX8_out_22 : decode cX8_out 22 = .ok (.aload_n 0, 1) := by decide +kernel
theorem dX8_out_23 : decode cX8_out 23 = .ok (.getfield 29, 3) := by decide +kernel
theorem dX8_out_26 : decode cX8_out 26 = .ok (.iconst 1, 1) := by decide +kernel
theorem dX8_out_27 : decode cX8_out 27 = .ok (.invokevirtual 172, 3) := by decide +kernel
theorem dX8_out_30 : decode cX8_out 30 = .ok (.invokevirtual 175, 3) := by decide +kernel
theorem dX8_out_33 : decode cX8_out 33 = .ok (.aload_n 0, 1) := by decide +kernel
theorem dX8_out_34 : decode cX8_out 34 = .ok (.getfield 43, 3) := by decide +kernel
theorem dX8_out_37 : decode cX8_out 37 = .ok (.iload_n 2, 1) := by decide +kernel
theorem dX8_out_38 : decode cX8_out 38 = .ok (.invokevirtual 206, 3) := by decide +kernel
theorem dX8_out_41 : decode cX8_out 41 = .ok (.ireturn, 1) := by decide +kernel
theorem iX8_out_8 : ∀ w ∈ wsX80, w ∈ wsX8_out := fun w h => List.mem_cons_of_mem _ (List.mem_append_left _ (List.mem_append_left _ (List.mem_append_left _ (List.mem_append_right _ h))))
theorem fX8_out_19 : FL mX8_out 19 8 1 := ⟨_, _, _, rfl, by decide, iX8_out_8, by decide +kernel⟩
theorem fX8_out_29 : FL mX8_out 29 8 3 := ⟨_, _, _, rfl, by decide, iX8_out_8, by decide +kernel⟩
theorem fX8_out_43 : FL mX8_out 43 8 5 := ⟨_, _, _, rfl, by decide, iX8_out_8, by decide +kernel⟩
set_option maxRecDepth 20000 in
theorem ggX8_out_X8_dayRefusal : GoodIn wsX8_out wsX8_dayRefusal := goodIn_r _ [8, 2, 9, 10, 11, 12, 13, 14, 15, 16, 17, 18, 19, 20, 21, 22, 23, 24, 25, 26, 64, 65, 66, 67, 68, 69, 70, 71, 72, 73, 74, 75, 76, 77] (by decide +kernel) (by decide +kernel)
set_option maxRecDepth 20000 in
theorem gX8_out_X8_dayRefusal : GoodIn wsX8_out (wsV RX8 167 RX8 yX8_dayRefusal wsX8_dayRefusal) := goodIn_app (goodIn_of _ (by decide +kernel)) ggX8_out_X8_dayRefusal
theorem wX8_out_167 : CWV mX8_out 167 mX8_dayRefusal 2 := ⟨gX8_out_X8_dayRefusal, ⟨_, rfl⟩, rfl, by decide +kernel, by decide +kernel, by decide +kernel⟩
set_option maxRecDepth 20000 in
theorem ggX8_out_X7_of : GoodIn wsX8_out wsX7_of := goodIn_r _ [31, 32, 78] (by decide +kernel) (by decide +kernel)
set_option maxRecDepth 20000 in
theorem gX8_out_X7_of : GoodIn wsX8_out (wsV RX8 172 RX7 yX7_of wsX7_of) := goodIn_app (goodIn_of _ (by decide +kernel)) ggX8_out_X7_of
theorem wX8_out_172 : CWV mX8_out 172 mX7_of 1 := ⟨gX8_out_X7_of, ⟨_, rfl⟩, rfl, by decide +kernel, by decide +kernel, by decide +kernel⟩
set_option maxRecDepth 20000 in
theorem ggX8_out_X0_lay : GoodIn wsX8_out wsX0_lay := goodIn_r _ [37, 38, 39, 40, 41, 42, 43, 44, 45, 12, 46, 22, 23, 24, 25, 26, 47, 48, 49, 36, 50, 79, 80, 81, 82, 83, 77] (by decide +kernel) (by decide +kernel)
set_option maxRecDepth 20000 in
theorem gX8_out_X0_lay : GoodIn wsX8_out (wsV RX8 175 RX0 yX0_lay wsX0_lay) := goodIn_app (goodIn_of _ (by decide +kernel)) ggX8_out_X0_lay
theorem wX8_out_175 : CWV mX8_out 175 mX0_lay 3 := ⟨gX8_out_X0_lay, ⟨_, rfl⟩, rfl, by decide +kernel, by decide +kernel, by decide +kernel⟩
set_option maxRecDepth 20000 in
theorem ggX8_out_X0_weightsLeftOut : GoodIn wsX8_out wsX0_weightsLeftOut := goodIn_r _ [54, 38, 55, 56, 57, 58, 36, 59, 40, 60, 61, 62, 63, 79, 80, 81, 82, 83] (by decide +kernel) (by decide +kernel)
set_option maxRecDepth 20000 in
theorem gX8_out_X0_weightsLeftOut : GoodIn wsX8_out (wsV RX8 206 RX0 yX0_weightsLeftOut wsX0_weightsLeftOut) := goodIn_app (goodIn_of _ (by decide +kernel)) ggX8_out_X0_weightsLeftOut
theorem wX8_out_206 : CWV mX8_out 206 mX0_weightsLeftOut 1 := ⟨gX8_out_X0_weightsLeftOut, ⟨_, rfl⟩, rfl, by decide +kernel, by decide +kernel, by decide +kernel⟩
abbrev mX8_clip : mT := (yX8_clip, RX8, cX8_clip, 3, (some .long), wsX8_clip)
abbrev rX8_clip : Room := { frames := 4, cells := 0, slots := 0, locals := 96 }
theorem dX8_clip_0 : decode cX8_clip 0 = .ok (.iload_n 1, 1) := by decide +kernel
theorem dX8_clip_1 : decode cX8_clip 1 = .ok (.invokestatic 132, 3) := by decide +kernel
theorem dX8_clip_4 : decode cX8_clip 4 = .ok (.ifCond .ne 7, 3) := by decide +kernel
theorem dX8_clip_7 : decode cX8_clip 7 = .ok (.ldc2_w 170, 3) := by decide +kernel
theorem dX8_clip_10 : decode cX8_clip 10 = .ok (.lreturn, 1) := by decide +kernel
theorem dX8_clip_11 : decode cX8_clip 11 = .ok (.iload_n 2, 1) := by decide +kernel
theorem dX8_clip_12 : decode cX8_clip 12 = .ok (.iconst 2, 1) := by decide +kernel
theorem dX8_clip_13 : decode cX8_clip 13 = .ok (.if_icmp .ne 10, 3) := by decide +kernel
theorem dX8_clip_16 : decode cX8_clip 16 = .ok (.aload_n 0, 1) := by decide +kernel
theorem dX8_clip_17 : decode cX8_clip 17 = .ok (.iload_n 1, 1) := by decide +kernel
theorem dX8_clip_18 : decode cX8_clip 18 = .ok (.invokevirtual 209, 3) := by decide +kernel
theorem dX8_clip_21 : decode cX8_clip 21 = .ok (.i2l, 1) := by decide +kernel
theorem dX8_clip_22 : decode cX8_clip 22 = .ok (.lreturn, 1) := by decide +kernel
theorem dX8_clip_23 : decode cX8_clip 23 = .ok (.iload_n 2, 1) := by decide +kernel
theorem dX8_clip_24 : decode cX8_clip 24 = .ok (.invokestatic 164, 3) := by decide +kernel
theorem dX8_clip_27 : decode cX8_clip 27 = .ok (.ifCond .eq 19, 3) := by decide +kernel
theorem dX8_clip_30 : decode cX8_clip 30 = .ok (.aload_n 0, 1) := by decide +kernel
theorem dX8_clip_31 : decode cX8_clip 31 = .ok (.iload_n 1, 1) := by decide +kernel
theorem dX8_clip_32 : decode cX8_clip 32 = .ok (.invokevirtual 212, 3) := by decide +kernel
theorem dX8_clip_35 : decode cX8_clip 35 = .ok (.iload_n 1, 1) := by decide +kernel
theorem dX8_clip_36 : decode cX8_clip 36 = .ok (.invokestatic 215, 3) := by decide +kernel
theorem dX8_clip_39 : decode cX8_clip 39 = .ok (.iload_n 2, 1) := by decide +kernel
theorem dX8_clip_40 : decode cX8_clip 40 = .ok (.invokestatic 186, 3) := by decide +kernel
theorem dX8_clip_43 : decode cX8_clip 43 = .ok (.goto 6, 3) := by decide +kernel
theorem dX8_clip_46 : decode cX8_clip 46 = .ok (.ldc2_w 170, 3) := by decide +kernel
theorem dX8_clip_49 : decode cX8_clip 49 = .ok (.lreturn, 1) := by decide +kernel
set_option maxRecDepth 20000 in
theorem ggX8_clip_X8_isWeight : GoodIn wsX8_clip wsX8_isWeight := goodIn_r _ [5] (by decide +kernel) (by decide +kernel)
set_option maxRecDepth 20000 in
theorem gX8_clip_X8_isWeight : GoodIn wsX8_clip (va_wsS RX8 132 yX8_isWeight wsX8_isWeight) := goodIn_app (goodIn_of _ (by decide +kernel)) ggX8_clip_X8_isWeight
theorem wX8_clip_132 : CWS mX8_clip 132 mX8_isWeight 1 := ⟨gX8_clip_X8_isWeight, ⟨_, rfl⟩, by decide +kernel, by decide +kernel, by decide +kernel⟩
set_option maxRecDepth 20000 in
theorem ggX8_clip_X8_isUpperOrLower : GoodIn wsX8_clip wsX8_isUpperOrLower := goodIn_r _ [39] (by decide +kernel) (by decide +kernel)
set_option maxRecDepth 20000 in
theorem gX8_clip_X8_isUpperOrLower : GoodIn wsX8_clip (va_wsS RX8 164 yX8_isUpperOrLower wsX8_isUpperOrLower) := goodIn_app (goodIn_of _ (by decide +kernel)) ggX8_clip_X8_isUpperOrLower
theorem wX8_clip_164 : CWS mX8_clip 164 mX8_isUpperOrLower 1 := ⟨gX8_clip_X8_isUpperOrLower, ⟨_, rfl⟩, by decide +kernel, by decide +kernel, by decide +kernel⟩
set_option maxRecDepth 20000 in
theorem ggX8_clip_X8_leastTerms : GoodIn wsX8_clip wsX8_leastTerms := goodIn_r _ [42, 43, 44, 16, 45, 1, 46, 47, 4, 48] (by decide +kernel) (by decide +kernel)
set_option maxRecDepth 20000 in
theorem gX8_clip_X8_leastTerms : GoodIn wsX8_clip (va_wsS RX8 186 yX8_leastTerms wsX8_leastTerms) := goodIn_app (goodIn_of _ (by decide +kernel)) ggX8_clip_X8_leastTerms
theorem wX8_clip_186 : CWS mX8_clip 186 mX8_leastTerms 3 := ⟨gX8_clip_X8_leastTerms, ⟨_, rfl⟩, by decide +kernel, by decide +kernel, by decide +kernel⟩
set_option maxRecDepth 20000 in
theorem ggX8_clip_X8_clippedUntil : GoodIn wsX8_clip wsX8_clippedUntil := goodIn_r _ [9, 10, 11, 12, 4, 13, 14, 15, 16, 17, 18, 19, 20, 21, 22, 23, 24, 25, 26, 27, 28, 29, 30, 31, 32, 33, 34, 35, 36, 49, 50, 51, 52, 53, 54, 55, 56, 57, 58, 59, 60, 61, 62] (by decide +kernel) (by decide +kernel)
set_option maxRecDepth 20000 in
theorem gX8_clip_X8_clippedUntil : GoodIn wsX8_clip (wsV RX8 209 RX8 yX8_clippedUntil wsX8_clippedUntil) := goodIn_app (goodIn_of _ (by decide +kernel)) ggX8_clip_X8_clippedUntil
theorem wX8_clip_209 : CWV mX8_clip 209 mX8_clippedUntil 1 := ⟨gX8_clip_X8_clippedUntil, ⟨_, rfl⟩, rfl, by decide +kernel, by decide +kernel, by decide +kernel⟩
set_option maxRecDepth 20000 in
theorem ggX8_clip_X8_worthScaled : GoodIn wsX8_clip wsX8_worthScaled := goodIn_r _ [13, 14, 15, 16, 17, 18, 19, 20, 4, 21, 22, 23, 24, 25, 26, 27, 28, 29, 30, 31, 32, 33, 34, 35, 36, 49, 50, 51, 52, 53, 54, 55, 56, 57, 58, 59, 60, 61, 62] (by decide +kernel) (by decide +kernel)
set_option maxRecDepth 20000 in
theorem gX8_clip_X8_worthScaled : GoodIn wsX8_clip (wsV RX8 212 RX8 yX8_worthScaled wsX8_worthScaled) := goodIn_app (goodIn_of _ (by decide +kernel)) ggX8_clip_X8_worthScaled
theorem wX8_clip_212 : CWV mX8_clip 212 mX8_worthScaled 1 := ⟨gX8_clip_X8_worthScaled, ⟨_, rfl⟩, rfl, by decide +kernel, by decide +kernel, by decide +kernel⟩
set_option maxRecDepth 20000 in
theorem ggX8_clip_X8_worthScale : GoodIn wsX8_clip wsX8_worthScale := goodIn_r _ [31, 32] (by decide +kernel) (by decide +kernel)
set_option maxRecDepth 20000 in
theorem gX8_clip_X8_worthScale : GoodIn wsX8_clip (va_wsS RX8 215 yX8_worthScale wsX8_worthScale) := goodIn_app (goodIn_of _ (by decide +kernel)) ggX8_clip_X8_worthScale
theorem wX8_clip_215 : CWS mX8_clip 215 mX8_worthScale 1 := ⟨gX8_clip_X8_worthScale, ⟨_, rfl⟩, by decide +kernel, by decide +kernel, by decide +kernel⟩
theorem dyR_ok {all : Int32} {n k : Nat} (h1 : 1 ≤ n) (h2 : n ≤ 30) (h3 : k ≤ n) (h4 : nI n ≤ all) : dyR all (nI n) (nI k) = 0 := by
  unfold dyR
  rw [if_neg, if_pos h4]
  rintro (z | z | z | z)
  · exact nI_nlt (b := 1) h1 (by omega) z
  · exact nI_nlt (a := 30) h2 (by omega) z
  · exact nI_pos (by omega) z
  · exact nI_nlt h3 (by omega) z
section
variable {Γ : gT} {l : Launch} {as : List Nat} {h : aH} {X T P S U M D L I tw dr : Nat} {lot yr : Int32} {tc : Int64} {aw ax ay ao n k pr ur da db dc : Nat} {f u fw hv lt : Nat → Int32} {d3 d4 L1 : Int32} {W : Nat → Nat}
/-- what the day's cells hold behind lay -/
abbrev hvL (W : Nat → Nat) (n : Nat) (hv : Nat → Int32) : Nat → Int32 := gArr W wUp (min n (cB W wUp 10)) hv
abbrev ltL (W : Nat → Nat) (n : Nat) (lt : Nat → Int32) : Nat → Int32 := gArr W wDn (min n (cB W wDn 10)) lt
theorem layH_q {q a b c : Nat} (hq : q ∈ as) (h1 : q ≠ a) (h2 : q ≠ b) (h3 : q ≠ c) : hat as (layH Γ q a b c n L1 f fw hv lt W h) q (ob 0 [.ref a, .ref b, .ref c, .int (nI n), .int L1]) := ⟨hq, by unfold layH; rw [hset_ne h3, hset_ne h2, hset_ne h1, hset_eq]⟩
theorem layH_a {q a b c : Nat} (hq : a ∈ as) (h2 : a ≠ b) (h3 : a ≠ c) : hat as (layH Γ q a b c n L1 f fw hv lt W h) a (aI Γ 10 (fillF (pWt f) fw 10)) := ⟨hq, by unfold layH; rw [hset_ne h3, hset_ne h2, hset_eq]⟩
theorem layH_b {q a b c : Nat} (hq : b ∈ as) (h3 : b ≠ c) : hat as (layH Γ q a b c n L1 f fw hv lt W h) b (aI Γ 31 (hvL W n hv)) := ⟨hq, by unfold layH; rw [hset_ne h3, hset_eq]⟩
theorem layH_c {q a b c : Nat} (hq : c ∈ as) : hat as (layH Γ q a b c n L1 f fw hv lt W h) c (aI Γ 31 (ltL W n lt)) := ⟨hq, by unfold layH; rw [hset_eq]⟩
theorem layH_o {q a b c j : Nat} {e : va_E} (hj : hat as h j e) (h0 : j ≠ q) (h1 : j ≠ a) (h2 : j ≠ b) (h3 : j ≠ c) : hat as (layH Γ q a b c n L1 f fw hv lt W h) j e := ⟨hj.1, by unfold layH; rw [hset_ne h3, hset_ne h2, hset_ne h1, hset_ne h0]; exact hj.2⟩
theorem c_rests_no {p : Int32} (hr : ¬ dyR (pAll f) p 0 = 0) (hX : hat as h X (xo T P S U M D L I tw dr lot yr tc)) (hP : hat as h P (ob 4 [.ref pr])) (hpr : hat as h pr (aI Γ 80 f)) : Det Γ l mX8_rests rX8_rests [.ref X, .int p] as h (some (.int (dyR (pAll f) p 0))) h := by
  refine Con.of (by decide +kernel) rfl rfl (Nat.le_of_ble_eq_true rfl) ?_
  refine q_aload_n dX8_rests_0 rfl rfl ?_
  refine q_iload_n dX8_rests_1 rfl rfl ?_
  refine q_iconst (v := 0) dX8_rests_2 rfl ?_
  refine q_callVd dX8_rests_3 wX8_rests_167 (c_dayRefusal hX hP hpr) (hX) ⟨_, _, rfl⟩ rfl rfl (Nat.le_of_ble_eq_true rfl) ⟨⟨Nat.le_of_ble_eq_true rfl, Nat.le_of_ble_eq_true rfl⟩, Nat.le_of_ble_eq_true rfl, Nat.le_of_ble_eq_true rfl⟩ ?_
  refine q_istore_n dX8_rests_6 rfl (by decide) ?_
  refine q_iload_n dX8_rests_7 rfl rfl ?_
  refine q_if_eq 13 dX8_rests_8 (by decide) (fun z => absurd z (hr)) (fun _ => ?_)
  refine q_iload_n dX8_rests_11 rfl rfl ?_
  exact q_iret dX8_rests_12 rfl (Nat.zero_le _) (Nat.zero_le _) (⟨rfl, rfl, rfl⟩)
theorem c_goes_no {p q : Int32} (hr : ¬ dyR (pAll f) p q = 0) (hX : hat as h X (xo T P S U M D L I tw dr lot yr tc)) (hP : hat as h P (ob 4 [.ref pr])) (hpr : hat as h pr (aI Γ 80 f)) : Det Γ l mX8_goes rX8_goes [.ref X, .int p, .int q] as h (some (.int (dyR (pAll f) p q))) h := by
  refine Con.of (by decide +kernel) rfl rfl (Nat.le_of_ble_eq_true rfl) ?_
  refine q_aload_n dX8_goes_0 rfl rfl ?_
  refine q_iload_n dX8_goes_1 rfl rfl ?_
  refine q_iload_n dX8_goes_2 rfl rfl ?_
  refine q_callVd dX8_goes_3 wX8_goes_167 (c_dayRefusal hX hP hpr) (hX) ⟨_, _, rfl⟩ rfl rfl (Nat.le_of_ble_eq_true rfl) ⟨⟨Nat.le_of_ble_eq_true rfl, Nat.le_of_ble_eq_true rfl⟩, Nat.le_of_ble_eq_true rfl, Nat.le_of_ble_eq_true rfl⟩ ?_
  refine q_istore_n dX8_goes_6 rfl (by decide) ?_
  refine q_iload_n dX8_goes_7 rfl rfl ?_
  refine q_if_eq 13 dX8_goes_8 (by decide) (fun z => absurd z (hr)) (fun _ => ?_)
  refine q_iload_n dX8_goes_11 rfl rfl ?_
  exact q_iret dX8_goes_12 rfl (Nat.zero_le _) (Nat.zero_le _) (⟨rfl, rfl, rfl⟩)
theorem c_tip_no {p : Int32} (hr : ¬ dyR (pAll f) p 0 = 0) (hX : hat as h X (xo T P S U M D L I tw dr lot yr tc)) (hP : hat as h P (ob 4 [.ref pr])) (hpr : hat as h pr (aI Γ 80 f)) : Det Γ l mX8_tip rX8_tip [.ref X, .int p] as h (some (.int (dyR (pAll f) p 0))) h := by
  refine Con.of (by decide +kernel) rfl rfl (Nat.le_of_ble_eq_true rfl) ?_
  refine q_aload_n dX8_tip_0 rfl rfl ?_
  refine q_iload_n dX8_tip_1 rfl rfl ?_
  refine q_iconst (v := 0) dX8_tip_2 rfl ?_
  refine q_callVd dX8_tip_3 wX8_tip_167 (c_dayRefusal hX hP hpr) (hX) ⟨_, _, rfl⟩ rfl rfl (Nat.le_of_ble_eq_true rfl) ⟨⟨Nat.le_of_ble_eq_true rfl, Nat.le_of_ble_eq_true rfl⟩, Nat.le_of_ble_eq_true rfl, Nat.le_of_ble_eq_true rfl⟩ ?_
  refine q_istore_n dX8_tip_6 rfl (by decide) ?_
  refine q_iload_n dX8_tip_7 rfl rfl ?_
  refine q_if_eq 13 dX8_tip_8 (by decide) (fun z => absurd z (hr)) (fun _ => ?_)
  refine q_iload_n dX8_tip_11 rfl rfl ?_
  exact q_iret dX8_tip_12 rfl (Nat.zero_le _) (Nat.zero_le _) (⟨rfl, rfl, rfl⟩)
theorem c_out_no {p q : Int32} (hr : ¬ dyR (pAll f) p q = 0) (hX : hat as h X (xo T P S U M D L I tw dr lot yr tc)) (hP : hat as h P (ob 4 [.ref pr])) (hpr : hat as h pr (aI Γ 80 f)) : Det Γ l mX8_out rX8_out [.ref X, .int p, .int q] as h (some (.int (dyR (pAll f) p q))) h := by
  refine Con.of (by decide +kernel) rfl rfl (Nat.le_of_ble_eq_true rfl) ?_
  refine q_aload_n dX8_out_0 rfl rfl ?_
  refine q_iload_n dX8_out_1 rfl rfl ?_
  refine q_iload_n dX8_out_2 rfl rfl ?_
  refine q_callVd dX8_out_3 wX8_out_167 (c_dayRefusal hX hP hpr) (hX) ⟨_, _, rfl⟩ rfl rfl (Nat.le_of_ble_eq_true rfl) ⟨⟨Nat.le_of_ble_eq_true rfl, Nat.le_of_ble_eq_true rfl⟩, Nat.le_of_ble_eq_true rfl, Nat.le_of_ble_eq_true rfl⟩ ?_
  refine q_istore_n dX8_out_6 rfl (by decide) ?_
  refine q_iload_n dX8_out_7 rfl rfl ?_
  refine q_if_eq 13 dX8_out_8 (by decide) (fun z => absurd z (hr)) (fun _ => ?_)
  refine q_iload_n dX8_out_11 rfl rfl ?_
  exact q_iret dX8_out_12 rfl (Nat.zero_le _) (Nat.zero_le _) (⟨rfl, rfl, rfl⟩)
theorem c_gain_no {p q a b : Int32} (hr : a < 0 ∨ 1 < a ∨ isUL b = false ∨ ¬ dyR (pAll f) p q = 0) (hX : hat as h X (xo T P S U M D L I tw dr lot yr tc)) (hP : hat as h P (ob 4 [.ref pr])) (hpr : hat as h pr (aI Γ 80 f)) : Det Γ l mX8_gain rX8_gain [.ref X, .int p, .int q, .int a, .int b] as h (some (.long (-1000000000000000000))) h := by
  refine Con.of (by decide +kernel) rfl rfl (Nat.le_of_ble_eq_true rfl) ?_
  refine q_iload_n dX8_gain_0 rfl rfl ?_
  refine q_if_lt 26 dX8_gain_1 (by decide) (fun cA => ?_) (fun cA => ?_)
  · refine q_ldc2 (v := (-1000000000000000000)) dX8_gain_26 (by decide +kernel) ?_
    exact q_lret dX8_gain_29 rfl (Nat.zero_le _) (Nat.zero_le _) (⟨rfl, rfl, rfl⟩)
  · refine q_iload_n dX8_gain_4 rfl rfl ?_
    refine q_iconst (v := 1) dX8_gain_5 rfl ?_
    refine q_icmp_gt 26 dX8_gain_6 (by decide) (fun cB => ?_) (fun cB => ?_)
    · refine q_ldc2 (v := (-1000000000000000000)) dX8_gain_26 (by decide +kernel) ?_
      exact q_lret dX8_gain_29 rfl (Nat.zero_le _) (Nat.zero_le _) (⟨rfl, rfl, rfl⟩)
    · refine q_iload dX8_gain_9 rfl ?_
      refine q_callSd dX8_gain_11 wX8_gain_164 (c_isUL) rfl rfl (Nat.le_of_ble_eq_true rfl) ⟨⟨Nat.le_of_ble_eq_true rfl, Nat.le_of_ble_eq_true rfl⟩, Nat.le_of_ble_eq_true rfl, Nat.le_of_ble_eq_true rfl⟩ ?_
      refine q_if_eq 26 dX8_gain_14 (by decide) (fun cC => ?_) (fun cC => ?_)
      · refine q_ldc2 (v := (-1000000000000000000)) dX8_gain_26 (by decide +kernel) ?_
        exact q_lret dX8_gain_29 rfl (Nat.zero_le _) (Nat.zero_le _) (⟨rfl, rfl, rfl⟩)
      · refine q_aload_n dX8_gain_17 rfl rfl ?_
        refine q_iload_n dX8_gain_18 rfl rfl ?_
        refine q_iload_n dX8_gain_19 rfl rfl ?_
        refine q_callVd dX8_gain_20 wX8_gain_167 (c_dayRefusal hX hP hpr) (hX) ⟨_, _, rfl⟩ rfl rfl (Nat.le_of_ble_eq_true rfl) ⟨⟨Nat.le_of_ble_eq_true rfl, Nat.le_of_ble_eq_true rfl⟩, Nat.le_of_ble_eq_true rfl, Nat.le_of_ble_eq_true rfl⟩ ?_
        refine q_if_eq 30 dX8_gain_23 (by decide) (fun cD => ?_) (fun cD => ?_)
        · exact absurd hr (by rintro (z | z | z | z) <;> first | exact cA z | exact cB z | exact cC (by rw [z]; rfl) | exact z cD)
        · refine q_ldc2 (v := (-1000000000000000000)) dX8_gain_26 (by decide +kernel) ?_
          exact q_lret dX8_gain_29 rfl (Nat.zero_le _) (Nat.zero_le _) (⟨rfl, rfl, rfl⟩)
theorem c_rests (hX : hat as h X (xo T P S U M D L I tw dr lot yr tc)) (hP : hat as h P (ob 4 [.ref pr])) (hpr : hat as h pr (aI Γ 80 f)) (hU : hat as h U (ob 7 [.ref ur])) (hur : hat as h ur (aI Γ 6 u)) (hD : hat as h D (ob 0 [.ref da, .ref db, .ref dc, .int d3, .int d4])) (hda : hat as h da (aI Γ 10 fw)) (hdb : hat as h db (aI Γ 31 hv)) (hdc : hat as h dc (aI Γ 31 lt)) (hbc : db ≠ dc) (hW : ∀ j, j < 10 → pWt f j = nI (W j) ∧ W j < 1000) (h1 : 1 ≤ n) (h2 : n ≤ 30) (h4 : nI n ≤ pAll f) : Det Γ l mX8_rests rX8_rests [.ref X, .int (nI n)] as h (some (.int (rsS (dUp (hvL W n hv) (ltL W n lt) n (u 1)) (dDn (hvL W n hv) (ltL W n lt) n (u 1)) (n + 1)))) (layH Γ D da db dc n (u 1) f fw hv lt W h) := by
  have e1 := hat_oa hD hda
  have e2 := hat_oa hD hdb
  have e3 := hat_oa hD hdc
  have fX := layH_o (Γ := Γ) (n := n) (L1 := u 1) (f := f) (fw := fw) (hv := hv) (lt := lt) (W := W) hX (hat_oo hX hD (by decide)) (hat_oa hX hda) (hat_oa hX hdb) (hat_oa hX hdc)
  refine Con.of (by decide +kernel) rfl rfl (Nat.le_of_ble_eq_true rfl) ?_
  refine q_aload_n dX8_rests_0 rfl rfl ?_
  refine q_iload_n dX8_rests_1 rfl rfl ?_
  refine q_iconst (v := 0) dX8_rests_2 rfl ?_
  refine q_callVd dX8_rests_3 wX8_rests_167 (c_dayRefusal hX hP hpr) (hX) ⟨_, _, rfl⟩ rfl rfl (Nat.le_of_ble_eq_true rfl) ⟨⟨Nat.le_of_ble_eq_true rfl, Nat.le_of_ble_eq_true rfl⟩, Nat.le_of_ble_eq_true rfl, Nat.le_of_ble_eq_true rfl⟩ ?_
  refine q_istore_n dX8_rests_6 rfl (by decide) ?_
  refine q_iload_n dX8_rests_7 rfl rfl ?_
  rw [show dyR (pAll f) (nI n) 0 = 0 from dyR_ok (k := 0) h1 h2 (by omega) h4]
  refine q_if_eq 13 dX8_rests_8 (by decide) (fun _ => ?_) (fun z => absurd (rfl) z)
  refine q_aload_n dX8_rests_13 rfl rfl ?_
  refine q_get dX8_rests_14 fX8_rests_43 (hX) rfl ?_
  refine q_aload_n dX8_rests_17 rfl rfl ?_
  refine q_get dX8_rests_18 fX8_rests_19 (hX) rfl ?_
  refine q_iload_n dX8_rests_21 rfl rfl ?_
  refine q_aload_n dX8_rests_22 rfl rfl ?_
  refine q_get dX8_rests_23 fX8_rests_29 (hX) rfl ?_
  refine q_iconst (v := 1) dX8_rests_26 rfl ?_
  refine q_callVd dX8_rests_27 wX8_rests_172 (c_of (j := 1) hU hur (by omega)) (hU) ⟨_, _, rfl⟩ rfl rfl (Nat.le_of_ble_eq_true rfl) ⟨⟨Nat.le_of_ble_eq_true rfl, Nat.le_of_ble_eq_true rfl⟩, Nat.le_of_ble_eq_true rfl, Nat.le_of_ble_eq_true rfl⟩ ?_
  refine q_callVd dX8_rests_30 wX8_rests_175 (c_lay (W := W) hD hda hdb hdc hbc hP hpr h2 hW) (hD) ⟨_, _, rfl⟩ rfl rfl (Nat.le_of_ble_eq_true rfl) ⟨⟨Nat.le_of_ble_eq_true rfl, Nat.le_of_ble_eq_true rfl⟩, Nat.le_of_ble_eq_true rfl, Nat.le_of_ble_eq_true rfl⟩ ?_
  refine q_aload_n dX8_rests_33 rfl rfl ?_
  refine q_get dX8_rests_34 fX8_rests_43 (fX) rfl ?_
  refine q_callVd dX8_rests_37 wX8_rests_196 (c_allThatRest (layH_q hD.1 e1 e2 e3) (layH_b hdb.1 hbc) (layH_c hdc.1) h2) (layH_q hD.1 e1 e2 e3) ⟨_, _, rfl⟩ rfl rfl (Nat.le_of_ble_eq_true rfl) ⟨⟨Nat.le_of_ble_eq_true rfl, Nat.le_of_ble_eq_true rfl⟩, Nat.le_of_ble_eq_true rfl, Nat.le_of_ble_eq_true rfl⟩ ?_
  exact q_iret dX8_rests_40 rfl (Nat.zero_le _) (Nat.zero_le _) (⟨rfl, rfl, rfl⟩)
theorem c_goes (hX : hat as h X (xo T P S U M D L I tw dr lot yr tc)) (hP : hat as h P (ob 4 [.ref pr])) (hpr : hat as h pr (aI Γ 80 f)) (hU : hat as h U (ob 7 [.ref ur])) (hur : hat as h ur (aI Γ 6 u)) (hD : hat as h D (ob 0 [.ref da, .ref db, .ref dc, .int d3, .int d4])) (hda : hat as h da (aI Γ 10 fw)) (hdb : hat as h db (aI Γ 31 hv)) (hdc : hat as h dc (aI Γ 31 lt)) (hbc : db ≠ dc) (hW : ∀ j, j < 10 → pWt f j = nI (W j) ∧ W j < 1000) (h1 : 1 ≤ n) (h2 : n ≤ 30) (h4 : nI n ≤ pAll f) (hk : k ≤ n) : Det Γ l mX8_goes rX8_goes [.ref X, .int (nI n), .int (nI k)] as h (some (.int (nI (enS (dUp (hvL W n hv) (ltL W n lt) n (u 1)) (dDn (hvL W n hv) (ltL W n lt) n (u 1)) n k)))) (layH Γ D da db dc n (u 1) f fw hv lt W h) := by
  have e1 := hat_oa hD hda
  have e2 := hat_oa hD hdb
  have e3 := hat_oa hD hdc
  have fX := layH_o (Γ := Γ) (n := n) (L1 := u 1) (f := f) (fw := fw) (hv := hv) (lt := lt) (W := W) hX (hat_oo hX hD (by decide)) (hat_oa hX hda) (hat_oa hX hdb) (hat_oa hX hdc)
  refine Con.of (by decide +kernel) rfl rfl (Nat.le_of_ble_eq_true rfl) ?_
  refine q_aload_n dX8_goes_0 rfl rfl ?_
  refine q_iload_n dX8_goes_1 rfl rfl ?_
  refine q_iload_n dX8_goes_2 rfl rfl ?_
  refine q_callVd dX8_goes_3 wX8_goes_167 (c_dayRefusal hX hP hpr) (hX) ⟨_, _, rfl⟩ rfl rfl (Nat.le_of_ble_eq_true rfl) ⟨⟨Nat.le_of_ble_eq_true rfl, Nat.le_of_ble_eq_true rfl⟩, Nat.le_of_ble_eq_true rfl, Nat.le_of_ble_eq_true rfl⟩ ?_
  refine q_istore_n dX8_goes_6 rfl (by decide) ?_
  refine q_iload_n dX8_goes_7 rfl rfl ?_
  rw [dyR_ok h1 h2 hk h4]
  refine q_if_eq 13 dX8_goes_8 (by decide) (fun _ => ?_) (fun z => absurd (rfl) z)
  refine q_aload_n dX8_goes_13 rfl rfl ?_
  refine q_get dX8_goes_14 fX8_goes_43 (hX) rfl ?_
  refine q_aload_n dX8_goes_17 rfl rfl ?_
  refine q_get dX8_goes_18 fX8_goes_19 (hX) rfl ?_
  refine q_iload_n dX8_goes_21 rfl rfl ?_
  refine q_aload_n dX8_goes_22 rfl rfl ?_
  refine q_get dX8_goes_23 fX8_goes_29 (hX) rfl ?_
  refine q_iconst (v := 1) dX8_goes_26 rfl ?_
  refine q_callVd dX8_goes_27 wX8_goes_172 (c_of (j := 1) hU hur (by omega)) (hU) ⟨_, _, rfl⟩ rfl rfl (Nat.le_of_ble_eq_true rfl) ⟨⟨Nat.le_of_ble_eq_true rfl, Nat.le_of_ble_eq_true rfl⟩, Nat.le_of_ble_eq_true rfl, Nat.le_of_ble_eq_true rfl⟩ ?_
  refine q_callVd dX8_goes_30 wX8_goes_175 (c_lay (W := W) hD hda hdb hdc hbc hP hpr h2 hW) (hD) ⟨_, _, rfl⟩ rfl rfl (Nat.le_of_ble_eq_true rfl) ⟨⟨Nat.le_of_ble_eq_true rfl, Nat.le_of_ble_eq_true rfl⟩, Nat.le_of_ble_eq_true rfl, Nat.le_of_ble_eq_true rfl⟩ ?_
  refine q_aload_n dX8_goes_33 rfl rfl ?_
  refine q_get dX8_goes_34 fX8_goes_43 (fX) rfl ?_
  refine q_iload_n dX8_goes_37 rfl rfl ?_
  refine q_callVd dX8_goes_38 wX8_goes_200 (c_endFrom (layH_q hD.1 e1 e2 e3) (layH_b hdb.1 hbc) (layH_c hdc.1) h2 hk) (layH_q hD.1 e1 e2 e3) ⟨_, _, rfl⟩ rfl rfl (Nat.le_of_ble_eq_true rfl) ⟨⟨Nat.le_of_ble_eq_true rfl, Nat.le_of_ble_eq_true rfl⟩, Nat.le_of_ble_eq_true rfl, Nat.le_of_ble_eq_true rfl⟩ ?_
  exact q_iret dX8_goes_41 rfl (Nat.zero_le _) (Nat.zero_le _) (⟨rfl, rfl, rfl⟩)
theorem c_tip (hX : hat as h X (xo T P S U M D L I tw dr lot yr tc)) (hP : hat as h P (ob 4 [.ref pr])) (hpr : hat as h pr (aI Γ 80 f)) (hU : hat as h U (ob 7 [.ref ur])) (hur : hat as h ur (aI Γ 6 u)) (hD : hat as h D (ob 0 [.ref da, .ref db, .ref dc, .int d3, .int d4])) (hda : hat as h da (aI Γ 10 fw)) (hdb : hat as h db (aI Γ 31 hv)) (hdc : hat as h dc (aI Γ 31 lt)) (hbc : db ≠ dc) (hW : ∀ j, j < 10 → pWt f j = nI (W j) ∧ W j < 1000) (h1 : 1 ≤ n) (h2 : n ≤ 30) (h4 : nI n ≤ pAll f) : Det Γ l mX8_tip rX8_tip [.ref X, .int (nI n)] as h (some (.int (tiS (dUp (hvL W n hv) (ltL W n lt) n (u 1)) (dDn (hvL W n hv) (ltL W n lt) n (u 1)) n (n + 1) 0))) (layH Γ D da db dc n (u 1) f fw hv lt W h) := by
  have e1 := hat_oa hD hda
  have e2 := hat_oa hD hdb
  have e3 := hat_oa hD hdc
  have fX := layH_o (Γ := Γ) (n := n) (L1 := u 1) (f := f) (fw := fw) (hv := hv) (lt := lt) (W := W) hX (hat_oo hX hD (by decide)) (hat_oa hX hda) (hat_oa hX hdb) (hat_oa hX hdc)
  refine Con.of (by decide +kernel) rfl rfl (Nat.le_of_ble_eq_true rfl) ?_
  refine q_aload_n dX8_tip_0 rfl rfl ?_
  refine q_iload_n dX8_tip_1 rfl rfl ?_
  refine q_iconst (v := 0) dX8_tip_2 rfl ?_
  refine q_callVd dX8_tip_3 wX8_tip_167 (c_dayRefusal hX hP hpr) (hX) ⟨_, _, rfl⟩ rfl rfl (Nat.le_of_ble_eq_true rfl) ⟨⟨Nat.le_of_ble_eq_true rfl, Nat.le_of_ble_eq_true rfl⟩, Nat.le_of_ble_eq_true rfl, Nat.le_of_ble_eq_true rfl⟩ ?_
  refine q_istore_n dX8_tip_6 rfl (by decide) ?_
  refine q_iload_n dX8_tip_7 rfl rfl ?_
  rw [show dyR (pAll f) (nI n) 0 = 0 from dyR_ok (k := 0) h1 h2 (by omega) h4]
  refine q_if_eq 13 dX8_tip_8 (by decide) (fun _ => ?_) (fun z => absurd (rfl) z)
  refine q_aload_n dX8_tip_13 rfl rfl ?_
  refine q_get dX8_tip_14 fX8_tip_43 (hX) rfl ?_
  refine q_aload_n dX8_tip_17 rfl rfl ?_
  refine q_get dX8_tip_18 fX8_tip_19 (hX) rfl ?_
  refine q_iload_n dX8_tip_21 rfl rfl ?_
  refine q_aload_n dX8_tip_22 rfl rfl ?_
  refine q_get dX8_tip_23 fX8_tip_29 (hX) rfl ?_
  refine q_iconst (v := 1) dX8_tip_26 rfl ?_
  refine q_callVd dX8_tip_27 wX8_tip_172 (c_of (j := 1) hU hur (by omega)) (hU) ⟨_, _, rfl⟩ rfl rfl (Nat.le_of_ble_eq_true rfl) ⟨⟨Nat.le_of_ble_eq_true rfl, Nat.le_of_ble_eq_true rfl⟩, Nat.le_of_ble_eq_true rfl, Nat.le_of_ble_eq_true rfl⟩ ?_
  refine q_callVd dX8_tip_30 wX8_tip_175 (c_lay (W := W) hD hda hdb hdc hbc hP hpr h2 hW) (hD) ⟨_, _, rfl⟩ rfl rfl (Nat.le_of_ble_eq_true rfl) ⟨⟨Nat.le_of_ble_eq_true rfl, Nat.le_of_ble_eq_true rfl⟩, Nat.le_of_ble_eq_true rfl, Nat.le_of_ble_eq_true rfl⟩ ?_
  refine q_aload_n dX8_tip_33 rfl rfl ?_
  refine q_get dX8_tip_34 fX8_tip_43 (fX) rfl ?_
  refine q_callVd dX8_tip_37 wX8_tip_203 (c_leastThatEndsInAll (layH_q hD.1 e1 e2 e3) (layH_b hdb.1 hbc) (layH_c hdc.1) h2) (layH_q hD.1 e1 e2 e3) ⟨_, _, rfl⟩ rfl rfl (Nat.le_of_ble_eq_true rfl) ⟨⟨Nat.le_of_ble_eq_true rfl, Nat.le_of_ble_eq_true rfl⟩, Nat.le_of_ble_eq_true rfl, Nat.le_of_ble_eq_true rfl⟩ ?_
  exact q_iret dX8_tip_40 rfl (Nat.zero_le _) (Nat.zero_le _) (⟨rfl, rfl, rfl⟩)
theorem c_out (hX : hat as h X (xo T P S U M D L I tw dr lot yr tc)) (hP : hat as h P (ob 4 [.ref pr])) (hpr : hat as h pr (aI Γ 80 f)) (hU : hat as h U (ob 7 [.ref ur])) (hur : hat as h ur (aI Γ 6 u)) (hD : hat as h D (ob 0 [.ref da, .ref db, .ref dc, .int d3, .int d4])) (hda : hat as h da (aI Γ 10 fw)) (hdb : hat as h db (aI Γ 31 hv)) (hdc : hat as h dc (aI Γ 31 lt)) (hbc : db ≠ dc) (hW : ∀ j, j < 10 → pWt f j = nI (W j) ∧ W j < 1000) (h1 : 1 ≤ n) (h2 : n ≤ 30) (h4 : nI n ≤ pAll f) (hk : k ≤ n) : Det Γ l mX8_out rX8_out [.ref X, .int (nI n), .int (nI k)] as h (some (.int (woB W wUp 2147483647 10 &&& ((woB W wUp k 10 ||| woB W wDn (n - k) 10) ^^^ (-1))))) (layH Γ D da db dc n (u 1) f fw hv lt W h) := by
  have e1 := hat_oa hD hda
  have e2 := hat_oa hD hdb
  have e3 := hat_oa hD hdc
  have fX := layH_o (Γ := Γ) (n := n) (L1 := u 1) (f := f) (fw := fw) (hv := hv) (lt := lt) (W := W) hX (hat_oo hX hD (by decide)) (hat_oa hX hda) (hat_oa hX hdb) (hat_oa hX hdc)
  have hW' : ∀ j, j < 10 → fillF (pWt f) fw 10 j = nI (W j) ∧ W j < 1000 := fun j hj => by
    rw [show fillF (pWt f) fw 10 j = pWt f j from if_pos hj]; exact hW j hj
  refine Con.of (by decide +kernel) rfl rfl (Nat.le_of_ble_eq_true rfl) ?_
  refine q_aload_n dX8_out_0 rfl rfl ?_
  refine q_iload_n dX8_out_1 rfl rfl ?_
  refine q_iload_n dX8_out_2 rfl rfl ?_
  refine q_callVd dX8_out_3 wX8_out_167 (c_dayRefusal hX hP hpr) (hX) ⟨_, _, rfl⟩ rfl rfl (Nat.le_of_ble_eq_true rfl) ⟨⟨Nat.le_of_ble_eq_true rfl, Nat.le_of_ble_eq_true rfl⟩, Nat.le_of_ble_eq_true rfl, Nat.le_of_ble_eq_true rfl⟩ ?_
  refine q_istore_n dX8_out_6 rfl (by decide) ?_
  refine q_iload_n dX8_out_7 rfl rfl ?_
  rw [dyR_ok h1 h2 hk h4]
  refine q_if_eq 13 dX8_out_8 (by decide) (fun _ => ?_) (fun z => absurd (rfl) z)
  refine q_aload_n dX8_out_13 rfl rfl ?_
  refine q_get dX8_out_14 fX8_out_43 (hX) rfl ?_
  refine q_aload_n dX8_out_17 rfl rfl ?_
  refine q_get dX8_out_18 fX8_out_19 (hX) rfl ?_
  refine q_iload_n dX8_out_21 rfl rfl ?_
  refine q_aload_n dX8_out_22 rfl rfl ?_
  refine q_get dX8_out_23 fX8_out_29 (hX) rfl ?_
  refine q_iconst (v := 1) dX8_out_26 rfl ?_
  refine q_callVd dX8_out_27 wX8_out_172 (c_of (j := 1) hU hur (by omega)) (hU) ⟨_, _, rfl⟩ rfl rfl (Nat.le_of_ble_eq_true rfl) ⟨⟨Nat.le_of_ble_eq_true rfl, Nat.le_of_ble_eq_true rfl⟩, Nat.le_of_ble_eq_true rfl, Nat.le_of_ble_eq_true rfl⟩ ?_
  refine q_callVd dX8_out_30 wX8_out_175 (c_lay (W := W) hD hda hdb hdc hbc hP hpr h2 hW) (hD) ⟨_, _, rfl⟩ rfl rfl (Nat.le_of_ble_eq_true rfl) ⟨⟨Nat.le_of_ble_eq_true rfl, Nat.le_of_ble_eq_true rfl⟩, Nat.le_of_ble_eq_true rfl, Nat.le_of_ble_eq_true rfl⟩ ?_
  refine q_aload_n dX8_out_33 rfl rfl ?_
  refine q_get dX8_out_34 fX8_out_43 (fX) rfl ?_
  refine q_iload_n dX8_out_37 rfl rfl ?_
  refine q_callVd dX8_out_38 wX8_out_206 (c_weightsLeftOut (layH_q hD.1 e1 e2 e3) (layH_a hda.1 (hat_nl hda hdb (by decide)) (hat_nl hda hdc (by decide))) hW' h2 hk) (layH_q hD.1 e1 e2 e3) ⟨_, _, rfl⟩ rfl rfl (Nat.le_of_ble_eq_true rfl) ⟨⟨Nat.le_of_ble_eq_true rfl, Nat.le_of_ble_eq_true rfl⟩, Nat.le_of_ble_eq_true rfl, Nat.le_of_ble_eq_true rfl⟩ ?_
  exact q_iret dX8_out_41 rfl (Nat.zero_le _) (Nat.zero_le _) (⟨rfl, rfl, rfl⟩)
theorem isUL_in {b : Int32} (h : isUL b = true) : ¬ bI (isUL b) = 0 := by rw [h]; decide
theorem c_gain_tale {b : Int32} {g : Nat} (hX : hat as h X (xo T P S U M D L I tw dr lot yr tc)) (hP : hat as h P (ob 4 [.ref pr])) (hpr : hat as h pr (aI Γ 80 f)) (hU : hat as h U (ob 7 [.ref ur])) (hur : hat as h ur (aI Γ 6 u)) (hD : hat as h D (ob 0 [.ref da, .ref db, .ref dc, .int d3, .int d4])) (hda : hat as h da (aI Γ 10 fw)) (hdb : hat as h db (aI Γ 31 hv)) (hdc : hat as h dc (aI Γ 31 lt)) (hbc : db ≠ dc) (hW : ∀ j, j < 10 → pWt f j = nI (W j) ∧ W j < 1000) (h1 : 1 ≤ n) (h2 : n ≤ 30) (h4 : nI n ≤ pAll f) (hk : k ≤ n) (hb : isUL b = true) (hg : (ltL W n lt (n - k)).toInt64 = lN g) (hg2 : g < 2 ^ 31) (hs : stp 200 g (n - k) = true) : Det Γ l mX8_gain rX8_gain [.ref X, .int (nI n), .int (nI k), .int 0, .int b] as h (some (.long (if k = n then -1000000000000000000 else (if b = 0 then lN g else lN (n - k)) / lN (Nat.gcd g (n - k))))) (layH Γ D da db dc n (u 1) f fw hv lt W h) := by
  have e1 := hat_oa hD hda
  have e2 := hat_oa hD hdb
  have e3 := hat_oa hD hdc
  have fX := layH_o (Γ := Γ) (n := n) (L1 := u 1) (f := f) (fw := fw) (hv := hv) (lt := lt) (W := W) hX (hat_oo hX hD (by decide)) (hat_oa hX hda) (hat_oa hX hdb) (hat_oa hX hdc)
  refine Con.of (by decide +kernel) rfl rfl (Nat.le_of_ble_eq_true rfl) ?_
  refine q_iload_n dX8_gain_0 rfl rfl ?_
  refine q_if_lt 26 dX8_gain_1 (by decide) (fun z => absurd z ((by decide))) (fun _ => ?_)
  refine q_iload_n dX8_gain_4 rfl rfl ?_
  refine q_iconst (v := 1) dX8_gain_5 rfl ?_
  refine q_icmp_gt 26 dX8_gain_6 (by decide) (fun z => absurd z ((by decide))) (fun _ => ?_)
  refine q_iload dX8_gain_9 rfl ?_
  refine q_callSd dX8_gain_11 wX8_gain_164 (c_isUL) rfl rfl (Nat.le_of_ble_eq_true rfl) ⟨⟨Nat.le_of_ble_eq_true rfl, Nat.le_of_ble_eq_true rfl⟩, Nat.le_of_ble_eq_true rfl, Nat.le_of_ble_eq_true rfl⟩ ?_
  refine q_if_eq 26 dX8_gain_14 (by decide) (fun z => absurd z (isUL_in hb)) (fun _ => ?_)
  refine q_aload_n dX8_gain_17 rfl rfl ?_
  refine q_iload_n dX8_gain_18 rfl rfl ?_
  refine q_iload_n dX8_gain_19 rfl rfl ?_
  refine q_callVd dX8_gain_20 wX8_gain_167 (c_dayRefusal hX hP hpr) (hX) ⟨_, _, rfl⟩ rfl rfl (Nat.le_of_ble_eq_true rfl) ⟨⟨Nat.le_of_ble_eq_true rfl, Nat.le_of_ble_eq_true rfl⟩, Nat.le_of_ble_eq_true rfl, Nat.le_of_ble_eq_true rfl⟩ ?_
  rw [dyR_ok h1 h2 hk h4]
  refine q_if_eq 30 dX8_gain_23 (by decide) (fun _ => ?_) (fun z => absurd (rfl) z)
  refine q_aload_n dX8_gain_30 rfl rfl ?_
  refine q_get dX8_gain_31 fX8_gain_43 (hX) rfl ?_
  refine q_aload_n dX8_gain_34 rfl rfl ?_
  refine q_get dX8_gain_35 fX8_gain_19 (hX) rfl ?_
  refine q_iload_n dX8_gain_38 rfl rfl ?_
  refine q_aload_n dX8_gain_39 rfl rfl ?_
  refine q_get dX8_gain_40 fX8_gain_29 (hX) rfl ?_
  refine q_iconst (v := 1) dX8_gain_43 rfl ?_
  refine q_callVd dX8_gain_44 wX8_gain_172 (c_of (j := 1) hU hur (by omega)) (hU) ⟨_, _, rfl⟩ rfl rfl (Nat.le_of_ble_eq_true rfl) ⟨⟨Nat.le_of_ble_eq_true rfl, Nat.le_of_ble_eq_true rfl⟩, Nat.le_of_ble_eq_true rfl, Nat.le_of_ble_eq_true rfl⟩ ?_
  refine q_callVd dX8_gain_47 wX8_gain_175 (c_lay (W := W) hD hda hdb hdc hbc hP hpr h2 hW) (hD) ⟨_, _, rfl⟩ rfl rfl (Nat.le_of_ble_eq_true rfl) ⟨⟨Nat.le_of_ble_eq_true rfl, Nat.le_of_ble_eq_true rfl⟩, Nat.le_of_ble_eq_true rfl, Nat.le_of_ble_eq_true rfl⟩ ?_
  refine q_iload_n dX8_gain_50 rfl rfl ?_
  refine q_if_ne 87 dX8_gain_51 (by decide) (fun z => absurd (rfl) z) (fun _ => ?_)
  refine q_iload_n dX8_gain_54 rfl rfl ?_
  refine q_iload_n dX8_gain_55 rfl rfl ?_
  refine q_icmp_ne 65 dX8_gain_56 (by decide) (fun cA => ?_) (fun cA => ?_)
  · have hne : ¬ k = n := fun z => cA (by rw [z])
    rw [if_neg hne]
    refine q_aload_n dX8_gain_65 rfl rfl ?_
    refine q_get dX8_gain_66 fX8_gain_43 (fX) rfl ?_
    refine q_iload_n dX8_gain_69 rfl rfl ?_
    refine q_callVd dX8_gain_70 wX8_gain_179 (c_taleUpper (layH_q hD.1 e1 e2 e3) (layH_c hdc.1) h2 hk) (layH_q hD.1 e1 e2 e3) ⟨_, _, rfl⟩ rfl rfl (Nat.le_of_ble_eq_true rfl) ⟨⟨Nat.le_of_ble_eq_true rfl, Nat.le_of_ble_eq_true rfl⟩, Nat.le_of_ble_eq_true rfl, Nat.le_of_ble_eq_true rfl⟩ ?_
    refine q_aload_n dX8_gain_73 rfl rfl ?_
    rw [hg]
    refine q_get dX8_gain_74 fX8_gain_43 (fX) rfl ?_
    refine q_iload_n dX8_gain_77 rfl rfl ?_
    refine q_callVd dX8_gain_78 wX8_gain_183 (c_taleLower (layH_q hD.1 e1 e2 e3) hk) (layH_q hD.1 e1 e2 e3) ⟨_, _, rfl⟩ rfl rfl (Nat.le_of_ble_eq_true rfl) ⟨⟨Nat.le_of_ble_eq_true rfl, Nat.le_of_ble_eq_true rfl⟩, Nat.le_of_ble_eq_true rfl, Nat.le_of_ble_eq_true rfl⟩ ?_
    refine q_iload dX8_gain_81 rfl ?_
    rw [nI_l (by omega)]
    refine q_callSd dX8_gain_83 wX8_gain_186 (c_leastTerms (a := g) (b := n - k) (by by_cases z : 0 < lN g; rw [if_pos z]; rw [if_neg z]; have : g = 0 := Nat.eq_zero_of_not_pos (fun w => z ((pk_lLT (a := 0) (by omega) (by omega)).mpr w)); rw [this]; rfl) (by omega) (by omega) (by omega) hs) rfl rfl (Nat.le_of_ble_eq_true rfl) ⟨⟨Nat.le_of_ble_eq_true rfl, Nat.le_of_ble_eq_true rfl⟩, Nat.le_of_ble_eq_true rfl, Nat.le_of_ble_eq_true rfl⟩ ?_
    exact q_lret dX8_gain_86 rfl (Nat.zero_le _) (Nat.zero_le _) (⟨rfl, rfl, rfl⟩)
  · rw [if_pos ((nI_eq (by omega) (by omega)).mp cA)]
    refine q_ldc2 (v := (-1000000000000000000)) dX8_gain_59 (by decide +kernel) ?_
    refine q_goto 86 dX8_gain_62 (by decide) ?_
    exact q_lret dX8_gain_86 rfl (Nat.zero_le _) (Nat.zero_le _) (⟨rfl, rfl, rfl⟩)
theorem c_gain_look {b : Int32} {g : Nat} (hX : hat as h X (xo T P S U M D L I tw dr lot yr tc)) (hP : hat as h P (ob 4 [.ref pr])) (hpr : hat as h pr (aI Γ 80 f)) (hU : hat as h U (ob 7 [.ref ur])) (hur : hat as h ur (aI Γ 6 u)) (hD : hat as h D (ob 0 [.ref da, .ref db, .ref dc, .int d3, .int d4])) (hda : hat as h da (aI Γ 10 fw)) (hdb : hat as h db (aI Γ 31 hv)) (hdc : hat as h dc (aI Γ 31 lt)) (hbc : db ≠ dc) (hW : ∀ j, j < 10 → pWt f j = nI (W j) ∧ W j < 1000) (h1 : 1 ≤ n) (h2 : n ≤ 30) (h4 : nI n ≤ pAll f) (hk : k ≤ n) (hb : isUL b = true) (hg : (if 0 < (10 * hvL W n hv k - u 1 * nI k).toInt64 then (10 * hvL W n hv k - u 1 * nI k).toInt64 else -(10 * hvL W n hv k - u 1 * nI k).toInt64) = lN g) (hg2 : g < 2 ^ 31) (hs : stp 200 g (10 * k) = true) : Det Γ l mX8_gain rX8_gain [.ref X, .int (nI n), .int (nI k), .int 1, .int b] as h (some (.long (if k = 0 then -1000000000000000000 else (if b = 0 then (10 * hvL W n hv k - u 1 * nI k).toInt64 else lN (10 * k)) / lN (Nat.gcd g (10 * k))))) (layH Γ D da db dc n (u 1) f fw hv lt W h) := by
  have e1 := hat_oa hD hda
  have e2 := hat_oa hD hdb
  have e3 := hat_oa hD hdc
  have fX := layH_o (Γ := Γ) (n := n) (L1 := u 1) (f := f) (fw := fw) (hv := hv) (lt := lt) (W := W) hX (hat_oo hX hD (by decide)) (hat_oa hX hda) (hat_oa hX hdb) (hat_oa hX hdc)
  refine Con.of (by decide +kernel) rfl rfl (Nat.le_of_ble_eq_true rfl) ?_
  refine q_iload_n dX8_gain_0 rfl rfl ?_
  refine q_if_lt 26 dX8_gain_1 (by decide) (fun z => absurd z ((by decide))) (fun _ => ?_)
  refine q_iload_n dX8_gain_4 rfl rfl ?_
  refine q_iconst (v := 1) dX8_gain_5 rfl ?_
  refine q_icmp_gt 26 dX8_gain_6 (by decide) (fun z => absurd z ((by decide))) (fun _ => ?_)
  refine q_iload dX8_gain_9 rfl ?_
  refine q_callSd dX8_gain_11 wX8_gain_164 (c_isUL) rfl rfl (Nat.le_of_ble_eq_true rfl) ⟨⟨Nat.le_of_ble_eq_true rfl, Nat.le_of_ble_eq_true rfl⟩, Nat.le_of_ble_eq_true rfl, Nat.le_of_ble_eq_true rfl⟩ ?_
  refine q_if_eq 26 dX8_gain_14 (by decide) (fun z => absurd z (isUL_in hb)) (fun _ => ?_)
  refine q_aload_n dX8_gain_17 rfl rfl ?_
  refine q_iload_n dX8_gain_18 rfl rfl ?_
  refine q_iload_n dX8_gain_19 rfl rfl ?_
  refine q_callVd dX8_gain_20 wX8_gain_167 (c_dayRefusal hX hP hpr) (hX) ⟨_, _, rfl⟩ rfl rfl (Nat.le_of_ble_eq_true rfl) ⟨⟨Nat.le_of_ble_eq_true rfl, Nat.le_of_ble_eq_true rfl⟩, Nat.le_of_ble_eq_true rfl, Nat.le_of_ble_eq_true rfl⟩ ?_
  rw [dyR_ok h1 h2 hk h4]
  refine q_if_eq 30 dX8_gain_23 (by decide) (fun _ => ?_) (fun z => absurd (rfl) z)
  refine q_aload_n dX8_gain_30 rfl rfl ?_
  refine q_get dX8_gain_31 fX8_gain_43 (hX) rfl ?_
  refine q_aload_n dX8_gain_34 rfl rfl ?_
  refine q_get dX8_gain_35 fX8_gain_19 (hX) rfl ?_
  refine q_iload_n dX8_gain_38 rfl rfl ?_
  refine q_aload_n dX8_gain_39 rfl rfl ?_
  refine q_get dX8_gain_40 fX8_gain_29 (hX) rfl ?_
  refine q_iconst (v := 1) dX8_gain_43 rfl ?_
  refine q_callVd dX8_gain_44 wX8_gain_172 (c_of (j := 1) hU hur (by omega)) (hU) ⟨_, _, rfl⟩ rfl rfl (Nat.le_of_ble_eq_true rfl) ⟨⟨Nat.le_of_ble_eq_true rfl, Nat.le_of_ble_eq_true rfl⟩, Nat.le_of_ble_eq_true rfl, Nat.le_of_ble_eq_true rfl⟩ ?_
  refine q_callVd dX8_gain_47 wX8_gain_175 (c_lay (W := W) hD hda hdb hdc hbc hP hpr h2 hW) (hD) ⟨_, _, rfl⟩ rfl rfl (Nat.le_of_ble_eq_true rfl) ⟨⟨Nat.le_of_ble_eq_true rfl, Nat.le_of_ble_eq_true rfl⟩, Nat.le_of_ble_eq_true rfl, Nat.le_of_ble_eq_true rfl⟩ ?_
  refine q_iload_n dX8_gain_50 rfl rfl ?_
  refine q_if_ne 87 dX8_gain_51 (by decide) (fun _ => ?_) (fun z => absurd z ((by decide)))
  refine q_iload_n dX8_gain_87 rfl rfl ?_
  refine q_if_ne 97 dX8_gain_88 (by decide) (fun cA => ?_) (fun cA => ?_)
  · have hne : ¬ k = 0 := fun z => cA (by rw [z]; rfl)
    rw [if_neg hne]
    refine q_aload_n dX8_gain_97 rfl rfl ?_
    refine q_get dX8_gain_98 fX8_gain_43 (fX) rfl ?_
    refine q_iload_n dX8_gain_101 rfl rfl ?_
    refine q_callVd dX8_gain_102 wX8_gain_190 (c_lookUpper (layH_q hD.1 e1 e2 e3) (layH_b hdb.1 hbc) (by omega)) (layH_q hD.1 e1 e2 e3) ⟨_, _, rfl⟩ rfl rfl (Nat.le_of_ble_eq_true rfl) ⟨⟨Nat.le_of_ble_eq_true rfl, Nat.le_of_ble_eq_true rfl⟩, Nat.le_of_ble_eq_true rfl, Nat.le_of_ble_eq_true rfl⟩ ?_
    refine q_aload_n dX8_gain_105 rfl rfl ?_
    refine q_get dX8_gain_106 fX8_gain_43 (fX) rfl ?_
    refine q_iload_n dX8_gain_109 rfl rfl ?_
    refine q_callVd dX8_gain_110 wX8_gain_193 (c_lookLower (x := 0) (v := .null)) (layH_q hD.1 e1 e2 e3) ⟨_, _, rfl⟩ rfl rfl (Nat.le_of_ble_eq_true rfl) ⟨⟨Nat.le_of_ble_eq_true rfl, Nat.le_of_ble_eq_true rfl⟩, Nat.le_of_ble_eq_true rfl, Nat.le_of_ble_eq_true rfl⟩ ?_
    refine q_iload dX8_gain_113 rfl ?_
    rw [show (10 * nI k).toInt64 = lN (10 * k) by rw [show (10 : Int32) = nI 10 from rfl, pk_mul, nI_l (by omega)]]
    refine q_callSd dX8_gain_115 wX8_gain_186 (c_leastTerms (a := g) (b := 10 * k) hg (by omega) (by omega) (by omega) hs) rfl rfl (Nat.le_of_ble_eq_true rfl) ⟨⟨Nat.le_of_ble_eq_true rfl, Nat.le_of_ble_eq_true rfl⟩, Nat.le_of_ble_eq_true rfl, Nat.le_of_ble_eq_true rfl⟩ ?_
    exact q_lret dX8_gain_118 rfl (Nat.zero_le _) (Nat.zero_le _) (⟨rfl, rfl, rfl⟩)
  · rw [if_pos ((nI_eq (b := 0) (by omega) (by omega)).mp cA)]
    refine q_ldc2 (v := (-1000000000000000000)) dX8_gain_91 (by decide +kernel) ?_
    refine q_goto 118 dX8_gain_94 (by decide) ?_
    exact q_lret dX8_gain_118 rfl (Nat.zero_le _) (Nat.zero_le _) (⟨rfl, rfl, rfl⟩)
theorem c_clip_bad {p q : Int32} (hb : isW p = false ∨ (¬ q = 2 ∧ isUL q = false)) : Det Γ l mX8_clip rX8_clip [.ref X, .int p, .int q] as h (some (.long (-1000000000000000000))) h := by
  refine Con.of (by decide +kernel) rfl rfl (Nat.le_of_ble_eq_true rfl) ?_
  refine q_iload_n dX8_clip_0 rfl rfl ?_
  refine q_callSd dX8_clip_1 wX8_clip_132 (c_isWeight) rfl rfl (Nat.le_of_ble_eq_true rfl) ⟨⟨Nat.le_of_ble_eq_true rfl, Nat.le_of_ble_eq_true rfl⟩, Nat.le_of_ble_eq_true rfl, Nat.le_of_ble_eq_true rfl⟩ ?_
  refine q_if_ne 11 dX8_clip_4 (by decide) (fun cA => ?_) (fun cA => ?_)
  · refine q_iload_n dX8_clip_11 rfl rfl ?_
    refine q_iconst (v := 2) dX8_clip_12 rfl ?_
    refine q_icmp_ne 23 dX8_clip_13 (by decide) (fun cB => ?_) (fun cB => ?_)
    · refine q_iload_n dX8_clip_23 rfl rfl ?_
      refine q_callSd dX8_clip_24 wX8_clip_164 (c_isUL) rfl rfl (Nat.le_of_ble_eq_true rfl) ⟨⟨Nat.le_of_ble_eq_true rfl, Nat.le_of_ble_eq_true rfl⟩, Nat.le_of_ble_eq_true rfl, Nat.le_of_ble_eq_true rfl⟩ ?_
      refine q_if_eq 46 dX8_clip_27 (by decide) (fun cC => ?_) (fun cC => ?_)
      · refine q_ldc2 (v := (-1000000000000000000)) dX8_clip_46 (by decide +kernel) ?_
        exact q_lret dX8_clip_49 rfl (Nat.zero_le _) (Nat.zero_le _) (⟨rfl, rfl, rfl⟩)
      · exact absurd hb (by rintro (z | z) <;> first | exact cA (by rw [z]; rfl) | exact cC (by rw [z.2]; rfl))
    · exact absurd hb (by rintro (z | z) <;> first | exact cA (by rw [z]; rfl) | exact z.1 cB)
  · refine q_ldc2 (v := (-1000000000000000000)) dX8_clip_7 (by decide +kernel) ?_
    exact q_lret dX8_clip_10 rfl (Nat.zero_le _) (Nat.zero_le _) (⟨rfl, rfl, rfl⟩)
theorem c_clip_until {p : Nat} (hp : p < 10) (hX : hat as h X (xo T P S U M D L I tw dr lot yr tc)) (hU : hat as h U (ob 7 [.ref ur])) (hur : hat as h ur (aI Γ 6 u)) : Det Γ l mX8_clip rX8_clip [.ref X, .int (nI p), .int 2] as h (some (.long (unS u (9 - p) p).toInt64)) h := by
  refine Con.of (by decide +kernel) rfl rfl (Nat.le_of_ble_eq_true rfl) ?_
  refine q_iload_n dX8_clip_0 rfl rfl ?_
  refine q_callSd dX8_clip_1 wX8_clip_132 (c_isWeight) rfl rfl (Nat.le_of_ble_eq_true rfl) ⟨⟨Nat.le_of_ble_eq_true rfl, Nat.le_of_ble_eq_true rfl⟩, Nat.le_of_ble_eq_true rfl, Nat.le_of_ble_eq_true rfl⟩ ?_
  refine q_if_ne 11 dX8_clip_4 (by decide) (fun _ => ?_) (fun z => absurd z (by rw [isW_nI hp]; decide))
  refine q_iload_n dX8_clip_11 rfl rfl ?_
  refine q_iconst (v := 2) dX8_clip_12 rfl ?_
  refine q_icmp_ne 23 dX8_clip_13 (by decide) (fun z => absurd (rfl) z) (fun _ => ?_)
  refine q_aload_n dX8_clip_16 rfl rfl ?_
  refine q_iload_n dX8_clip_17 rfl rfl ?_
  refine q_callVd dX8_clip_18 wX8_clip_209 (c_clippedUntil (by omega) hX hU hur) (hX) ⟨_, _, rfl⟩ rfl rfl (Nat.le_of_ble_eq_true rfl) ⟨⟨Nat.le_of_ble_eq_true rfl, Nat.le_of_ble_eq_true rfl⟩, Nat.le_of_ble_eq_true rfl, Nat.le_of_ble_eq_true rfl⟩ ?_
  refine q_i2l dX8_clip_21 ?_
  exact q_lret dX8_clip_22 rfl (Nat.zero_le _) (Nat.zero_le _) (⟨rfl, rfl, rfl⟩)
theorem c_clip {p a b : Nat} {q : Int32} (hp : p < 10) (hq : isUL q = true) (hX : hat as h X (xo T P S U M D L I tw dr lot yr tc)) (hU : hat as h U (ob 7 [.ref ur])) (hur : hat as h ur (aI Γ 6 u)) (hup : (if 0 < wrW u (9 - p) then wrW u (9 - p) else -wrW u (9 - p)) = lN a) (ha : a < 2 ^ 63) (hb : p10 (9 - p) = lN b) (hb0 : 0 < b) (hb2 : b < 2 ^ 63) (hs : stp 200 a b = true) : Det Γ l mX8_clip rX8_clip [.ref X, .int (nI p), .int q] as h (some (.long ((if q = 0 then wrW u (9 - p) else lN b) / lN (Nat.gcd a b)))) h := by
  refine Con.of (by decide +kernel) rfl rfl (Nat.le_of_ble_eq_true rfl) ?_
  refine q_iload_n dX8_clip_0 rfl rfl ?_
  refine q_callSd dX8_clip_1 wX8_clip_132 (c_isWeight) rfl rfl (Nat.le_of_ble_eq_true rfl) ⟨⟨Nat.le_of_ble_eq_true rfl, Nat.le_of_ble_eq_true rfl⟩, Nat.le_of_ble_eq_true rfl, Nat.le_of_ble_eq_true rfl⟩ ?_
  refine q_if_ne 11 dX8_clip_4 (by decide) (fun _ => ?_) (fun z => absurd z (by rw [isW_nI hp]; decide))
  refine q_iload_n dX8_clip_11 rfl rfl ?_
  refine q_iconst (v := 2) dX8_clip_12 rfl ?_
  refine q_icmp_ne 23 dX8_clip_13 (by decide) (fun _ => ?_) (fun z => absurd z (fun z => by rw [z] at hq; exact absurd hq (by decide)))
  refine q_iload_n dX8_clip_23 rfl rfl ?_
  refine q_callSd dX8_clip_24 wX8_clip_164 (c_isUL) rfl rfl (Nat.le_of_ble_eq_true rfl) ⟨⟨Nat.le_of_ble_eq_true rfl, Nat.le_of_ble_eq_true rfl⟩, Nat.le_of_ble_eq_true rfl, Nat.le_of_ble_eq_true rfl⟩ ?_
  refine q_if_eq 46 dX8_clip_27 (by decide) (fun z => absurd z (isUL_in hq)) (fun _ => ?_)
  refine q_aload_n dX8_clip_30 rfl rfl ?_
  refine q_iload_n dX8_clip_31 rfl rfl ?_
  refine q_callVd dX8_clip_32 wX8_clip_212 (c_worthScaled (show p ≤ 9 by omega) hX hU hur) (hX) ⟨_, _, rfl⟩ rfl rfl (Nat.le_of_ble_eq_true rfl) ⟨⟨Nat.le_of_ble_eq_true rfl, Nat.le_of_ble_eq_true rfl⟩, Nat.le_of_ble_eq_true rfl, Nat.le_of_ble_eq_true rfl⟩ ?_
  refine q_iload_n dX8_clip_35 rfl rfl ?_
  refine q_callSd dX8_clip_36 wX8_clip_215 (c_worthScale (show p ≤ 9 by omega)) rfl rfl (Nat.le_of_ble_eq_true rfl) ⟨⟨Nat.le_of_ble_eq_true rfl, Nat.le_of_ble_eq_true rfl⟩, Nat.le_of_ble_eq_true rfl, Nat.le_of_ble_eq_true rfl⟩ ?_
  refine q_iload_n dX8_clip_39 rfl rfl ?_
  rw [hb]
  refine q_callSd dX8_clip_40 wX8_clip_186 (c_leastTerms hup ha hb2 hb0 hs) rfl rfl (Nat.le_of_ble_eq_true rfl) ⟨⟨Nat.le_of_ble_eq_true rfl, Nat.le_of_ble_eq_true rfl⟩, Nat.le_of_ble_eq_true rfl, Nat.le_of_ble_eq_true rfl⟩ ?_
  refine q_goto 49 dX8_clip_43 (by decide) ?_
  exact q_lret dX8_clip_49 rfl (Nat.zero_le _) (Nat.zero_le _) (⟨rfl, rfl, rfl⟩)
end

