/-! LIGHTCOINS (X8): what its calls share -/
abbrev mX8_isPerson : mT := (yX8_isPerson, RX8, cX8_isPerson, 2, (some .boolean), wsX8_isPerson)
abbrev rX8_isPerson : Room := { frames := 0, cells := 0, slots := 0, locals := 0 }
theorem dX8_isPerson_0 : decode cX8_isPerson 0 = .ok (.iload_n 1, 1) := by decide +kernel
theorem dX8_isPerson_1 : decode cX8_isPerson 1 = .ok (.ifCond .lt 18, 3) := by decide +kernel
theorem dX8_isPerson_4 : decode cX8_isPerson 4 = .ok (.iload_n 1, 1) := by decide +kernel
theorem dX8_isPerson_5 : decode cX8_isPerson 5 = .ok (.aload_n 0, 1) := by decide +kernel
theorem dX8_isPerson_6 : decode cX8_isPerson 6 = .ok (.getfield 64, 3) := by decide +kernel
theorem dX8_isPerson_9 : decode cX8_isPerson 9 = .ok (.getfield 109, 3) := by decide +kernel
theorem dX8_isPerson_12 : decode cX8_isPerson 12 = .ok (.if_icmp .ge 7, 3) := by decide +kernel
theorem dX8_isPerson_15 : decode cX8_isPerson 15 = .ok (.iconst 1, 1) := by decide +kernel
theorem dX8_isPerson_16 : decode cX8_isPerson 16 = .ok (.goto 4, 3) := by decide +kernel
theorem dX8_isPerson_19 : decode cX8_isPerson 19 = .ok (.iconst 0, 1) := by decide +kernel
theorem dX8_isPerson_20 : decode cX8_isPerson 20 = .ok (.ireturn, 1) := by decide +kernel
theorem iX8_isPerson_8 : ∀ w ∈ wsX80, w ∈ wsX8_isPerson := fun w h => List.mem_cons_of_mem _ (List.mem_append_left _ (List.mem_append_right _ h))
theorem fX8_isPerson_64 : FL mX8_isPerson 64 8 8 := ⟨_, _, _, rfl, by decide, iX8_isPerson_8, by decide +kernel⟩
theorem iX8_isPerson_6 : ∀ w ∈ wsX60, w ∈ wsX8_isPerson := fun w h => List.mem_cons_of_mem _ (List.mem_append_right _ h)
theorem fX8_isPerson_109 : FL mX8_isPerson 109 6 4 := ⟨_, _, _, rfl, by decide, iX8_isPerson_6, by decide +kernel⟩
abbrev mX8_isWeight : mT := (yX8_isWeight, RX8, cX8_isWeight, 1, (some .boolean), wsX8_isWeight)
abbrev rX8_isWeight : Room := { frames := 0, cells := 0, slots := 0, locals := 0 }
theorem dX8_isWeight_0 : decode cX8_isWeight 0 = .ok (.iload_n 0, 1) := by decide +kernel
theorem dX8_isWeight_1 : decode cX8_isWeight 1 = .ok (.ifCond .lt 13, 3) := by decide +kernel
theorem dX8_isWeight_4 : decode cX8_isWeight 4 = .ok (.iload_n 0, 1) := by decide +kernel
theorem dX8_isWeight_5 : decode cX8_isWeight 5 = .ok (.bipush 10, 2) := by decide +kernel
theorem dX8_isWeight_7 : decode cX8_isWeight 7 = .ok (.if_icmp .ge 7, 3) := by decide +kernel
theorem dX8_isWeight_10 : decode cX8_isWeight 10 = .ok (.iconst 1, 1) := by decide +kernel
theorem dX8_isWeight_11 : decode cX8_isWeight 11 = .ok (.goto 4, 3) := by decide +kernel
theorem dX8_isWeight_14 : decode cX8_isWeight 14 = .ok (.iconst 0, 1) := by decide +kernel
theorem dX8_isWeight_15 : decode cX8_isWeight 15 = .ok (.ireturn, 1) := by decide +kernel
abbrev mX8_isImage : mT := (yX8_isImage, RX8, cX8_isImage, 1, (some .boolean), wsX8_isImage)
abbrev rX8_isImage : Room := { frames := 0, cells := 0, slots := 0, locals := 0 }
theorem dX8_isImage_0 : decode cX8_isImage 0 = .ok (.iload_n 0, 1) := by decide +kernel
theorem dX8_isImage_1 : decode cX8_isImage 1 = .ok (.ifCond .lt 12, 3) := by decide +kernel
theorem dX8_isImage_4 : decode cX8_isImage 4 = .ok (.iload_n 0, 1) := by decide +kernel
theorem dX8_isImage_5 : decode cX8_isImage 5 = .ok (.iconst 1, 1) := by decide +kernel
theorem dX8_isImage_6 : decode cX8_isImage 6 = .ok (.if_icmp .gt 7, 3) := by decide +kernel
theorem dX8_isImage_9 : decode cX8_isImage 9 = .ok (.iconst 1, 1) := by decide +kernel
theorem dX8_isImage_10 : decode cX8_isImage 10 = .ok (.goto 4, 3) := by decide +kernel
theorem dX8_isImage_13 : decode cX8_isImage 13 = .ok (.iconst 0, 1) := by decide +kernel
theorem dX8_isImage_14 : decode cX8_isImage 14 = .ok (.ireturn, 1) := by decide +kernel
abbrev mX8_isUpperOrLower : mT := (yX8_isUpperOrLower, RX8, cX8_isUpperOrLower, 1, (some .boolean), wsX8_isUpperOrLower)
abbrev rX8_isUpperOrLower : Room := { frames := 0, cells := 0, slots := 0, locals := 0 }
theorem dX8_isUpperOrLower_0 : decode cX8_isUpperOrLower 0 = .ok (.iload_n 0, 1) := by decide +kernel
theorem dX8_isUpperOrLower_1 : decode cX8_isUpperOrLower 1 = .ok (.ifCond .eq 8, 3) := by decide +kernel
theorem dX8_isUpperOrLower_4 : decode cX8_isUpperOrLower 4 = .ok (.iload_n 0, 1) := by decide +kernel
theorem dX8_isUpperOrLower_5 : decode cX8_isUpperOrLower 5 = .ok (.iconst 1, 1) := by decide +kernel
theorem dX8_isUpperOrLower_6 : decode cX8_isUpperOrLower 6 = .ok (.if_icmp .ne 7, 3) := by decide +kernel
theorem dX8_isUpperOrLower_9 : decode cX8_isUpperOrLower 9 = .ok (.iconst 1, 1) := by decide +kernel
theorem dX8_isUpperOrLower_10 : decode cX8_isUpperOrLower 10 = .ok (.goto 4, 3) := by decide +kernel
theorem dX8_isUpperOrLower_13 : decode cX8_isUpperOrLower 13 = .ok (.iconst 0, 1) := by decide +kernel
theorem dX8_isUpperOrLower_14 : decode cX8_isUpperOrLower 14 = .ok (.ireturn, 1) := by decide +kernel
abbrev mX8_divides : mT := (yX8_divides, RX8, cX8_divides, 2, (some .boolean), wsX8_divides)
abbrev rX8_divides : Room := { frames := 0, cells := 0, slots := 0, locals := 0 }
theorem dX8_divides_0 : decode cX8_divides 0 = .ok (.iload_n 0, 1) := by decide +kernel
theorem dX8_divides_1 : decode cX8_divides 1 = .ok (.ifCond .le 13, 3) := by decide +kernel
theorem dX8_divides_4 : decode cX8_divides 4 = .ok (.iload_n 1, 1) := by decide +kernel
theorem dX8_divides_5 : decode cX8_divides 5 = .ok (.iload_n 0, 1) := by decide +kernel
theorem dX8_divides_6 : decode cX8_divides 6 = .ok (.irem, 1) := by decide +kernel
theorem dX8_divides_7 : decode cX8_divides 7 = .ok (.ifCond .ne 7, 3) := by decide +kernel
theorem dX8_divides_10 : decode cX8_divides 10 = .ok (.iconst 1, 1) := by decide +kernel
theorem dX8_divides_11 : decode cX8_divides 11 = .ok (.goto 4, 3) := by decide +kernel
theorem dX8_divides_14 : decode cX8_divides 14 = .ok (.iconst 0, 1) := by decide +kernel
theorem dX8_divides_15 : decode cX8_divides 15 = .ok (.ireturn, 1) := by decide +kernel
abbrev mX8_dayRefusal : mT := (yX8_dayRefusal, RX8, cX8_dayRefusal, 3, (some .int), wsX8_dayRefusal)
abbrev rX8_dayRefusal : Room := { frames := 4, cells := 0, slots := 0, locals := 89 }
theorem dX8_dayRefusal_0 : decode cX8_dayRefusal 0 = .ok (.iload_n 1, 1) := by decide +kernel
theorem dX8_dayRefusal_1 : decode cX8_dayRefusal 1 = .ok (.iconst 1, 1) := by decide +kernel
theorem dX8_dayRefusal_2 : decode cX8_dayRefusal 2 = .ok (.if_icmp .lt 18, 3) := by decide +kernel
theorem dX8_dayRefusal_5 : decode cX8_dayRefusal 5 = .ok (.iload_n 1, 1) := by decide +kernel
theorem dX8_dayRefusal_6 : decode cX8_dayRefusal 6 = .ok (.bipush 30, 2) := by decide +kernel
theorem dX8_dayRefusal_8 : decode cX8_dayRefusal 8 = .ok (.if_icmp .gt 12, 3) := by decide +kernel
theorem dX8_dayRefusal_11 : decode cX8_dayRefusal 11 = .ok (.iload_n 2, 1) := by decide +kernel
theorem dX8_dayRefusal_12 : decode cX8_dayRefusal 12 = .ok (.ifCond .lt 8, 3) := by decide +kernel
theorem dX8_dayRefusal_15 : decode cX8_dayRefusal 15 = .ok (.iload_n 2, 1) := by decide +kernel
theorem dX8_dayRefusal_16 : decode cX8_dayRefusal 16 = .ok (.iload_n 1, 1) := by decide +kernel
theorem dX8_dayRefusal_17 : decode cX8_dayRefusal 17 = .ok (.if_icmp .le 5, 3) := by decide +kernel
theorem dX8_dayRefusal_20 : decode cX8_dayRefusal 20 = .ok (.iconst (-1), 1) := by decide +kernel
theorem dX8_dayRefusal_21 : decode cX8_dayRefusal 21 = .ok (.ireturn, 1) := by decide +kernel
theorem dX8_dayRefusal_22 : decode cX8_dayRefusal 22 = .ok (.iload_n 1, 1) := by decide +kernel
theorem dX8_dayRefusal_23 : decode cX8_dayRefusal 23 = .ok (.aload_n 0, 1) := by decide +kernel
theorem dX8_dayRefusal_24 : decode cX8_dayRefusal 24 = .ok (.getfield 19, 3) := by decide +kernel
theorem dX8_dayRefusal_27 : decode cX8_dayRefusal 27 = .ok (.invokevirtual 225, 3) := by decide +kernel
theorem dX8_dayRefusal_30 : decode cX8_dayRefusal 30 = .ok (.if_icmp .le 8, 3) := by decide +kernel
theorem dX8_dayRefusal_33 : decode cX8_dayRefusal 33 = .ok (.bipush (-2), 2) := by decide +kernel
theorem dX8_dayRefusal_35 : decode cX8_dayRefusal 35 = .ok (.goto 4, 3) := by decide +kernel
theorem dX8_dayRefusal_38 : decode cX8_dayRefusal 38 = .ok (.iconst 0, 1) := by decide +kernel
theorem dX8_dayRefusal_39 : decode cX8_dayRefusal 39 = .ok (.ireturn, 1) := by decide +kernel
theorem iX8_dayRefusal_8 : ∀ w ∈ wsX80, w ∈ wsX8_dayRefusal := fun w h => List.mem_cons_of_mem _ (List.mem_append_left _ (List.mem_append_right _ h))
theorem fX8_dayRefusal_19 : FL mX8_dayRefusal 19 8 1 := ⟨_, _, _, rfl, by decide, iX8_dayRefusal_8, by decide +kernel⟩
set_option maxRecDepth 20000 in
theorem ggX8_dayRefusal_X4_allCoins : GoodIn wsX8_dayRefusal wsX4_allCoins := goodIn_r _ [6, 7, 8, 9, 5, 10, 11, 12, 13, 14, 15, 16, 17, 18, 19, 33] (by decide +kernel) (by decide +kernel)
set_option maxRecDepth 20000 in
theorem gX8_dayRefusal_X4_allCoins : GoodIn wsX8_dayRefusal (wsV RX8 225 RX4 yX4_allCoins wsX4_allCoins) := goodIn_app (goodIn_of _ (by decide +kernel)) ggX8_dayRefusal_X4_allCoins
theorem wX8_dayRefusal_225 : CWV mX8_dayRefusal 225 mX4_allCoins 0 := ⟨gX8_dayRefusal_X4_allCoins, ⟨_, rfl⟩, rfl, by decide +kernel, by decide +kernel, by decide +kernel⟩
abbrev mX8_commonDivisor : mT := (yX8_commonDivisor, RX8, cX8_commonDivisor, 11, (some .long), wsX8_commonDivisor)
abbrev rX8_commonDivisor : Room := { frames := 0, cells := 0, slots := 0, locals := 0 }
theorem dX8_commonDivisor_0 : decode cX8_commonDivisor 0 = .ok (.lload_n 0, 1) := by decide +kernel
theorem dX8_commonDivisor_1 : decode cX8_commonDivisor 1 = .ok (.lstore 4, 2) := by decide +kernel
theorem dX8_commonDivisor_3 : decode cX8_commonDivisor 3 = .ok (.lload_n 2, 1) := by decide +kernel
theorem dX8_commonDivisor_4 : decode cX8_commonDivisor 4 = .ok (.lstore 6, 2) := by decide +kernel
theorem dX8_commonDivisor_6 : decode cX8_commonDivisor 6 = .ok (.iconst 0, 1) := by decide +kernel
theorem dX8_commonDivisor_7 : decode cX8_commonDivisor 7 = .ok (.istore 8, 2) := by decide +kernel
theorem dX8_commonDivisor_9 : decode cX8_commonDivisor 9 = .ok (.iload 8, 2) := by decide +kernel
theorem dX8_commonDivisor_11 : decode cX8_commonDivisor 11 = .ok (.sipush 200, 3) := by decide +kernel
theorem dX8_commonDivisor_14 : decode cX8_commonDivisor 14 = .ok (.if_icmp .ge 31, 3) := by decide +kernel
theorem dX8_commonDivisor_17 : decode cX8_commonDivisor 17 = .ok (.lload 6, 2) := by decide +kernel
theorem dX8_commonDivisor_19 : decode cX8_commonDivisor 19 = .ok (.lconst 0, 1) := by decide +kernel
theorem dX8_commonDivisor_20 : decode cX8_commonDivisor 20 = .ok (.lcmp, 1) := by decide +kernel
theorem dX8_commonDivisor_21 : decode cX8_commonDivisor 21 = .ok (.ifCond .eq 24, 3) := by decide +kernel
theorem dX8_commonDivisor_24 : decode cX8_commonDivisor 24 = .ok (.lload 4, 2) := by decide +kernel
theorem dX8_commonDivisor_26 : decode cX8_commonDivisor 26 = .ok (.lload 6, 2) := by decide +kernel
theorem dX8_commonDivisor_28 : decode cX8_commonDivisor 28 = .ok (.lrem, 1) := by decide +kernel
theorem dX8_commonDivisor_29 : decode cX8_commonDivisor 29 = .ok (.lstore 9, 2) := by decide +kernel
theorem dX8_commonDivisor_31 : decode cX8_commonDivisor 31 = .ok (.lload 6, 2) := by decide +kernel
theorem dX8_commonDivisor_33 : decode cX8_commonDivisor 33 = .ok (.lstore 4, 2) := by decide +kernel
theorem dX8_commonDivisor_35 : decode cX8_commonDivisor 35 = .ok (.lload 9, 2) := by decide +kernel
theorem dX8_commonDivisor_37 : decode cX8_commonDivisor 37 = .ok (.lstore 6, 2) := by decide +kernel
theorem dX8_commonDivisor_39 : decode cX8_commonDivisor 39 = .ok (.iinc 8 1, 3) := by decide +kernel
theorem dX8_commonDivisor_42 : decode cX8_commonDivisor 42 = .ok (.goto (-33), 3) := by decide +kernel
theorem dX8_commonDivisor_45 : decode cX8_commonDivisor 45 = .ok (.lload 4, 2) := by decide +kernel
theorem dX8_commonDivisor_47 : decode cX8_commonDivisor 47 = .ok (.lreturn, 1) := by decide +kernel
abbrev mX8_leastTerms : mT := (yX8_leastTerms, RX8, cX8_leastTerms, 7, (some .long), wsX8_leastTerms)
abbrev rX8_leastTerms : Room := { frames := 1, cells := 0, slots := 0, locals := 40 }
theorem dX8_leastTerms_0 : decode cX8_leastTerms 0 = .ok (.lload_n 0, 1) := by decide +kernel
theorem dX8_leastTerms_1 : decode cX8_leastTerms 1 = .ok (.invokestatic 294, 3) := by decide +kernel
theorem dX8_leastTerms_4 : decode cX8_leastTerms 4 = .ok (.lload_n 2, 1) := by decide +kernel
theorem dX8_leastTerms_5 : decode cX8_leastTerms 5 = .ok (.invokestatic 300, 3) := by decide +kernel
theorem dX8_leastTerms_8 : decode cX8_leastTerms 8 = .ok (.lstore 5, 2) := by decide +kernel
theorem dX8_leastTerms_10 : decode cX8_leastTerms 10 = .ok (.lload 5, 2) := by decide +kernel
theorem dX8_leastTerms_12 : decode cX8_leastTerms 12 = .ok (.lconst 0, 1) := by decide +kernel
theorem dX8_leastTerms_13 : decode cX8_leastTerms 13 = .ok (.lcmp, 1) := by decide +kernel
theorem dX8_leastTerms_14 : decode cX8_leastTerms 14 = .ok (.ifCond .ne 7, 3) := by decide +kernel
theorem dX8_leastTerms_17 : decode cX8_leastTerms 17 = .ok (.ldc2_w 170, 3) := by decide +kernel
theorem dX8_leastTerms_20 : decode cX8_leastTerms 20 = .ok (.lreturn, 1) := by decide +kernel
theorem dX8_leastTerms_21 : decode cX8_leastTerms 21 = .ok (.iload 4, 2) := by decide +kernel
theorem dX8_leastTerms_23 : decode cX8_leastTerms 23 = .ok (.ifCond .ne 7, 3) := by decide +kernel
theorem dX8_leastTerms_26 : decode cX8_leastTerms 26 = .ok (.lload_n 0, 1) := by decide +kernel
theorem dX8_leastTerms_27 : decode cX8_leastTerms 27 = .ok (.goto 4, 3) := by decide +kernel
theorem dX8_leastTerms_30 : decode cX8_leastTerms 30 = .ok (.lload_n 2, 1) := by decide +kernel
theorem dX8_leastTerms_31 : decode cX8_leastTerms 31 = .ok (.lload 5, 2) := by decide +kernel
theorem dX8_leastTerms_33 : decode cX8_leastTerms 33 = .ok (.ldiv, 1) := by decide +kernel
theorem dX8_leastTerms_34 : decode cX8_leastTerms 34 = .ok (.lreturn, 1) := by decide +kernel
set_option maxRecDepth 20000 in
theorem ggX8_leastTerms_X8_commonDivisor : GoodIn wsX8_leastTerms wsX8_commonDivisor := goodIn_r _ [9] (by decide +kernel) (by decide +kernel)
set_option maxRecDepth 20000 in
theorem gX8_leastTerms_X8_commonDivisor : GoodIn wsX8_leastTerms (va_wsS RX8 300 yX8_commonDivisor wsX8_commonDivisor) := goodIn_app (goodIn_of _ (by decide +kernel)) ggX8_leastTerms_X8_commonDivisor
theorem wX8_leastTerms_300 : CWS mX8_leastTerms 300 mX8_commonDivisor 2 := ⟨gX8_leastTerms_X8_commonDivisor, ⟨_, rfl⟩, by decide +kernel, by decide +kernel, by decide +kernel⟩
abbrev mX8_draw : mT := (yX8_draw, RX8, cX8_draw, 1, (some .int), wsX8_draw)
abbrev rX8_draw : Room := { frames := 0, cells := 0, slots := 0, locals := 0 }
theorem dX8_draw_0 : decode cX8_draw 0 = .ok (.aload_n 0, 1) := by decide +kernel
theorem dX8_draw_1 : decode cX8_draw 1 = .ok (.aload_n 0, 1) := by decide +kernel
theorem dX8_draw_2 : decode cX8_draw 2 = .ok (.getfield 71, 3) := by decide +kernel
theorem dX8_draw_5 : decode cX8_draw 5 = .ok (.ldc_w 304, 3) := by decide +kernel
theorem dX8_draw_8 : decode cX8_draw 8 = .ok (.imul, 1) := by decide +kernel
theorem dX8_draw_9 : decode cX8_draw 9 = .ok (.sipush 12345, 3) := by decide +kernel
theorem dX8_draw_12 : decode cX8_draw 12 = .ok (.iadd, 1) := by decide +kernel
theorem dX8_draw_13 : decode cX8_draw 13 = .ok (.putfield 71, 3) := by decide +kernel
theorem dX8_draw_16 : decode cX8_draw 16 = .ok (.aload_n 0, 1) := by decide +kernel
theorem dX8_draw_17 : decode cX8_draw 17 = .ok (.getfield 71, 3) := by decide +kernel
theorem dX8_draw_20 : decode cX8_draw 20 = .ok (.bipush 16, 2) := by decide +kernel
theorem dX8_draw_22 : decode cX8_draw 22 = .ok (.iushr, 1) := by decide +kernel
theorem dX8_draw_23 : decode cX8_draw 23 = .ok (.ireturn, 1) := by decide +kernel
theorem iX8_draw_8 : ∀ w ∈ wsX80, w ∈ wsX8_draw := fun w h => List.mem_cons_of_mem _ (List.mem_append_right _ h)
theorem fX8_draw_71 : FL mX8_draw 71 8 10 := ⟨_, _, _, rfl, by decide, iX8_draw_8, by decide +kernel⟩
theorem pX8_draw_71 : FP mX8_draw 71 8 10 .int false := ⟨_, _, _, tyX8, rfl, by decide, iX8_draw_8, by decide +kernel, tyX8_ok, nmX8, rfl, rfl, fun z => absurd z (by decide)⟩
abbrev mX8_looksNow : mT := (yX8_looksNow, RX8, cX8_looksNow, 2, (some .boolean), wsX8_looksNow)
abbrev rX8_looksNow : Room := { frames := 1, cells := 0, slots := 0, locals := 20 }
theorem dX8_looksNow_0 : decode cX8_looksNow 0 = .ok (.aload_n 0, 1) := by decide +kernel
theorem dX8_looksNow_1 : decode cX8_looksNow 1 = .ok (.getfield 64, 3) := by decide +kernel
theorem dX8_looksNow_4 : decode cX8_looksNow 4 = .ok (.getfield 115, 3) := by decide +kernel
theorem dX8_looksNow_7 : decode cX8_looksNow 7 = .ok (.iload_n 1, 1) := by decide +kernel
theorem dX8_looksNow_8 : decode cX8_looksNow 8 = .ok (.iaload, 1) := by decide +kernel
theorem dX8_looksNow_9 : decode cX8_looksNow 9 = .ok (.iconst 2, 1) := by decide +kernel
theorem dX8_looksNow_10 : decode cX8_looksNow 10 = .ok (.if_icmp .ne 28, 3) := by decide +kernel
theorem dX8_looksNow_13 : decode cX8_looksNow 13 = .ok (.aload_n 0, 1) := by decide +kernel
theorem dX8_looksNow_14 : decode cX8_looksNow 14 = .ok (.invokevirtual 305, 3) := by decide +kernel
theorem dX8_looksNow_17 : decode cX8_looksNow 17 = .ok (.bipush 10, 2) := by decide +kernel
theorem dX8_looksNow_19 : decode cX8_looksNow 19 = .ok (.irem, 1) := by decide +kernel
theorem dX8_looksNow_20 : decode cX8_looksNow 20 = .ok (.aload_n 0, 1) := by decide +kernel
theorem dX8_looksNow_21 : decode cX8_looksNow 21 = .ok (.getfield 64, 3) := by decide +kernel
theorem dX8_looksNow_24 : decode cX8_looksNow 24 = .ok (.getfield 119, 3) := by decide +kernel
theorem dX8_looksNow_27 : decode cX8_looksNow 27 = .ok (.iload_n 1, 1) := by decide +kernel
theorem dX8_looksNow_28 : decode cX8_looksNow 28 = .ok (.iaload, 1) := by decide +kernel
theorem dX8_looksNow_29 : decode cX8_looksNow 29 = .ok (.if_icmp .ge 7, 3) := by decide +kernel
theorem dX8_looksNow_32 : decode cX8_looksNow 32 = .ok (.iconst 1, 1) := by decide +kernel
theorem dX8_looksNow_33 : decode cX8_looksNow 33 = .ok (.goto 4, 3) := by decide +kernel
theorem dX8_looksNow_36 : decode cX8_looksNow 36 = .ok (.iconst 0, 1) := by decide +kernel
theorem dX8_looksNow_37 : decode cX8_looksNow 37 = .ok (.ireturn, 1) := by decide +kernel
theorem dX8_looksNow_38 : decode cX8_looksNow 38 = .ok (.aload_n 0, 1) := by decide +kernel
theorem dX8_looksNow_39 : decode cX8_looksNow 39 = .ok (.getfield 64, 3) := by decide +kernel
theorem dX8_looksNow_42 : decode cX8_looksNow 42 = .ok (.getfield 115, 3) := by decide +kernel
theorem dX8_looksNow_45 : decode cX8_looksNow 45 = .ok (.iload_n 1, 1) := by decide +kernel
theorem dX8_looksNow_46 : decode cX8_looksNow 46 = .ok (.iaload, 1) := by decide +kernel
theorem dX8_looksNow_47 : decode cX8_looksNow 47 = .ok (.iconst 1, 1) := by decide +kernel
theorem dX8_looksNow_48 : decode cX8_looksNow 48 = .ok (.if_icmp .ne 7, 3) := by decide +kernel
theorem dX8_looksNow_51 : decode cX8_looksNow 51 = .ok (.iconst 1, 1) := by decide +kernel
theorem dX8_looksNow_52 : decode cX8_looksNow 52 = .ok (.goto 4, 3) := by decide +kernel
theorem dX8_looksNow_55 : decode cX8_looksNow 55 = .ok (.iconst 0, 1) := by decide +kernel
theorem dX8_looksNow_56 : decode cX8_looksNow 56 = .ok (.ireturn, 1) := by decide +kernel
theorem iX8_looksNow_8 : ∀ w ∈ wsX80, w ∈ wsX8_looksNow := fun w h => List.mem_cons_of_mem _ (List.mem_append_left _ (List.mem_append_right _ h))
theorem fX8_looksNow_64 : FL mX8_looksNow 64 8 8 := ⟨_, _, _, rfl, by decide, iX8_looksNow_8, by decide +kernel⟩
theorem iX8_looksNow_6 : ∀ w ∈ wsX60, w ∈ wsX8_looksNow := fun w h => List.mem_cons_of_mem _ (List.mem_append_right _ h)
theorem fX8_looksNow_115 : FL mX8_looksNow 115 6 0 := ⟨_, _, _, rfl, by decide, iX8_looksNow_6, by decide +kernel⟩
theorem fX8_looksNow_119 : FL mX8_looksNow 119 6 1 := ⟨_, _, _, rfl, by decide, iX8_looksNow_6, by decide +kernel⟩
set_option maxRecDepth 20000 in
theorem ggX8_looksNow_X8_draw : GoodIn wsX8_looksNow wsX8_draw := goodIn_r _ [8, 9, 10, 11, 12, 13, 14, 15, 16, 17, 18, 19, 20, 21, 22, 23] (by decide +kernel) (by decide +kernel)
set_option maxRecDepth 20000 in
theorem gX8_looksNow_X8_draw : GoodIn wsX8_looksNow (wsV RX8 305 RX8 yX8_draw wsX8_draw) := goodIn_app (goodIn_of _ (by decide +kernel)) ggX8_looksNow_X8_draw
theorem wX8_looksNow_305 : CWV mX8_looksNow 305 mX8_draw 0 := ⟨gX8_looksNow_X8_draw, ⟨_, rfl⟩, rfl, by decide +kernel, by decide +kernel, by decide +kernel⟩
abbrev mX8_weightToPay : mT := (yX8_weightToPay, RX8, cX8_weightToPay, 5, (some .int), wsX8_weightToPay)
abbrev rX8_weightToPay : Room := { frames := 1, cells := 0, slots := 0, locals := 22 }
theorem dX8_weightToPay_0 : decode cX8_weightToPay 0 = .ok (.iload_n 2, 1) := by decide +kernel
theorem dX8_weightToPay_1 : decode cX8_weightToPay 1 = .ok (.ifCond .eq 14, 3) := by decide +kernel
theorem dX8_weightToPay_4 : decode cX8_weightToPay 4 = .ok (.aload_n 0, 1) := by decide +kernel
theorem dX8_weightToPay_5 : decode cX8_weightToPay 5 = .ok (.getfield 29, 3) := by decide +kernel
theorem dX8_weightToPay_8 : decode cX8_weightToPay 8 = .ok (.iconst 0, 1) := by decide +kernel
theorem dX8_weightToPay_9 : decode cX8_weightToPay 9 = .ok (.invokevirtual 172, 3) := by decide +kernel
theorem dX8_weightToPay_12 : decode cX8_weightToPay 12 = .ok (.goto 5, 3) := by decide +kernel
theorem dX8_weightToPay_15 : decode cX8_weightToPay 15 = .ok (.bipush 9, 2) := by decide +kernel
theorem dX8_weightToPay_17 : decode cX8_weightToPay 17 = .ok (.istore_n 3, 1) := by decide +kernel
theorem dX8_weightToPay_18 : decode cX8_weightToPay 18 = .ok (.aload_n 0, 1) := by decide +kernel
theorem dX8_weightToPay_19 : decode cX8_weightToPay 19 = .ok (.getfield 64, 3) := by decide +kernel
theorem dX8_weightToPay_22 : decode cX8_weightToPay 22 = .ok (.getfield 122, 3) := by decide +kernel
theorem dX8_weightToPay_25 : decode cX8_weightToPay 25 = .ok (.iload_n 1, 1) := by decide +kernel
theorem dX8_weightToPay_26 : decode cX8_weightToPay 26 = .ok (.iaload, 1) := by decide +kernel
theorem dX8_weightToPay_27 : decode cX8_weightToPay 27 = .ok (.iconst 1, 1) := by decide +kernel
theorem dX8_weightToPay_28 : decode cX8_weightToPay 28 = .ok (.if_icmp .ne 37, 3) := by decide +kernel
theorem dX8_weightToPay_31 : decode cX8_weightToPay 31 = .ok (.iconst 0, 1) := by decide +kernel
theorem dX8_weightToPay_32 : decode cX8_weightToPay 32 = .ok (.istore 4, 2) := by decide +kernel
theorem dX8_weightToPay_34 : decode cX8_weightToPay 34 = .ok (.iload 4, 2) := by decide +kernel
theorem dX8_weightToPay_36 : decode cX8_weightToPay 36 = .ok (.iload_n 3, 1) := by decide +kernel
theorem dX8_weightToPay_37 : decode cX8_weightToPay 37 = .ok (.if_icmp .gt 25, 3) := by decide +kernel
theorem dX8_weightToPay_40 : decode cX8_weightToPay 40 = .ok (.aload_n 0, 1) := by decide +kernel
theorem dX8_weightToPay_41 : decode cX8_weightToPay 41 = .ok (.getfield 19, 3) := by decide +kernel
theorem dX8_weightToPay_44 : decode cX8_weightToPay 44 = .ok (.iload_n 1, 1) := by decide +kernel
theorem dX8_weightToPay_45 : decode cX8_weightToPay 45 = .ok (.iload 4, 2) := by decide +kernel
theorem dX8_weightToPay_47 : decode cX8_weightToPay 47 = .ok (.invokevirtual 135, 3) := by decide +kernel
theorem dX8_weightToPay_50 : decode cX8_weightToPay 50 = .ok (.ifCond .le 6, 3) := by decide +kernel
theorem dX8_weightToPay_53 : decode cX8_weightToPay 53 = .ok (.iload 4, 2) := by decide +kernel
theorem dX8_weightToPay_55 : decode cX8_weightToPay 55 = .ok (.ireturn, 1) := by decide +kernel
theorem dX8_weightToPay_56 : decode cX8_weightToPay 56 = .ok (.iinc 4 1, 3) := by decide +kernel
theorem dX8_weightToPay_59 : decode cX8_weightToPay 59 = .ok (.goto (-25), 3) := by decide +kernel
theorem dX8_weightToPay_62 : decode cX8_weightToPay 62 = .ok (.bipush (-9), 2) := by decide +kernel
theorem dX8_weightToPay_64 : decode cX8_weightToPay 64 = .ok (.ireturn, 1) := by decide +kernel
theorem dX8_weightToPay_65 : decode cX8_weightToPay 65 = .ok (.iload_n 3, 1) := by decide +kernel
theorem dX8_weightToPay_66 : decode cX8_weightToPay 66 = .ok (.istore 4, 2) := by decide +kernel
theorem dX8_weightToPay_68 : decode cX8_weightToPay 68 = .ok (.iload 4, 2) := by decide +kernel
theorem dX8_weightToPay_70 : decode cX8_weightToPay 70 = .ok (.ifCond .lt 25, 3) := by decide +kernel
theorem dX8_weightToPay_73 : decode cX8_weightToPay 73 = .ok (.aload_n 0, 1) := by decide +kernel
theorem dX8_weightToPay_74 : decode cX8_weightToPay 74 = .ok (.getfield 19, 3) := by decide +kernel
theorem dX8_weightToPay_77 : decode cX8_weightToPay 77 = .ok (.iload_n 1, 1) := by decide +kernel
theorem dX8_weightToPay_78 : decode cX8_weightToPay 78 = .ok (.iload 4, 2) := by decide +kernel
theorem dX8_weightToPay_80 : decode cX8_weightToPay 80 = .ok (.invokevirtual 135, 3) := by decide +kernel
theorem dX8_weightToPay_83 : decode cX8_weightToPay 83 = .ok (.ifCond .le 6, 3) := by decide +kernel
theorem dX8_weightToPay_86 : decode cX8_weightToPay 86 = .ok (.iload 4, 2) := by decide +kernel
theorem dX8_weightToPay_88 : decode cX8_weightToPay 88 = .ok (.ireturn, 1) := by decide +kernel
theorem dX8_weightToPay_89 : decode cX8_weightToPay 89 = .ok (.iinc 4 (-1), 3) := by decide +kernel
theorem dX8_weightToPay_92 : decode cX8_weightToPay 92 = .ok (.goto (-24), 3) := by decide +kernel
theorem dX8_weightToPay_95 : decode cX8_weightToPay 95 = .ok (.bipush (-9), 2) := by decide +kernel
theorem dX8_weightToPay_97 : decode cX8_weightToPay 97 = .ok (.ireturn, 1) := by decide +kernel
theorem iX8_weightToPay_8 : ∀ w ∈ wsX80, w ∈ wsX8_weightToPay := fun w h => List.mem_cons_of_mem _ (List.mem_append_left _ (List.mem_append_left _ (List.mem_append_left _ (List.mem_append_right _ h))))
theorem fX8_weightToPay_19 : FL mX8_weightToPay 19 8 1 := ⟨_, _, _, rfl, by decide, iX8_weightToPay_8, by decide +kernel⟩
theorem fX8_weightToPay_29 : FL mX8_weightToPay 29 8 3 := ⟨_, _, _, rfl, by decide, iX8_weightToPay_8, by decide +kernel⟩
theorem fX8_weightToPay_64 : FL mX8_weightToPay 64 8 8 := ⟨_, _, _, rfl, by decide, iX8_weightToPay_8, by decide +kernel⟩
theorem iX8_weightToPay_6 : ∀ w ∈ wsX60, w ∈ wsX8_weightToPay := fun w h => List.mem_cons_of_mem _ (List.mem_append_left _ (List.mem_append_left _ (List.mem_append_right _ h)))
theorem fX8_weightToPay_122 : FL mX8_weightToPay 122 6 2 := ⟨_, _, _, rfl, by decide, iX8_weightToPay_6, by decide +kernel⟩
set_option maxRecDepth 20000 in
theorem ggX8_weightToPay_X4_held : GoodIn wsX8_weightToPay wsX4_held := goodIn_r _ [15, 16, 36] (by decide +kernel) (by decide +kernel)
set_option maxRecDepth 20000 in
theorem gX8_weightToPay_X4_held : GoodIn wsX8_weightToPay (wsV RX8 135 RX4 yX4_held wsX4_held) := goodIn_app (goodIn_of _ (by decide +kernel)) ggX8_weightToPay_X4_held
theorem wX8_weightToPay_135 : CWV mX8_weightToPay 135 mX4_held 2 := ⟨gX8_weightToPay_X4_held, ⟨_, rfl⟩, rfl, by decide +kernel, by decide +kernel, by decide +kernel⟩
set_option maxRecDepth 20000 in
theorem ggX8_weightToPay_X7_of : GoodIn wsX8_weightToPay wsX7_of := goodIn_r _ [9, 10, 35] (by decide +kernel) (by decide +kernel)
set_option maxRecDepth 20000 in
theorem gX8_weightToPay_X7_of : GoodIn wsX8_weightToPay (wsV RX8 172 RX7 yX7_of wsX7_of) := goodIn_app (goodIn_of _ (by decide +kernel)) ggX8_weightToPay_X7_of
theorem wX8_weightToPay_172 : CWV mX8_weightToPay 172 mX7_of 1 := ⟨gX8_weightToPay_X7_of, ⟨_, rfl⟩, rfl, by decide +kernel, by decide +kernel, by decide +kernel⟩
abbrev mX8_worthAsItIs : mT := (yX8_worthAsItIs, RX8, cX8_worthAsItIs, 2, (some .int), wsX8_worthAsItIs)
abbrev rX8_worthAsItIs : Room := { frames := 1, cells := 0, slots := 0, locals := 21 }
theorem dX8_worthAsItIs_0 : decode cX8_worthAsItIs 0 = .ok (.iload_n 1, 1) := by decide +kernel
theorem dX8_worthAsItIs_1 : decode cX8_worthAsItIs 1 = .ok (.aload_n 0, 1) := by decide +kernel
theorem dX8_worthAsItIs_2 : decode cX8_worthAsItIs 2 = .ok (.getfield 29, 3) := by decide +kernel
theorem dX8_worthAsItIs_5 : decode cX8_worthAsItIs 5 = .ok (.iconst 0, 1) := by decide +kernel
theorem dX8_worthAsItIs_6 : decode cX8_worthAsItIs 6 = .ok (.invokevirtual 172, 3) := by decide +kernel
theorem dX8_worthAsItIs_9 : decode cX8_worthAsItIs 9 = .ok (.if_icmp .gt 8, 3) := by decide +kernel
theorem dX8_worthAsItIs_12 : decode cX8_worthAsItIs 12 = .ok (.bipush 10, 2) := by decide +kernel
theorem dX8_worthAsItIs_14 : decode cX8_worthAsItIs 14 = .ok (.goto 7, 3) := by decide +kernel
theorem dX8_worthAsItIs_17 : decode cX8_worthAsItIs 17 = .ok (.bipush 10, 2) := by decide +kernel
theorem dX8_worthAsItIs_19 : decode cX8_worthAsItIs 19 = .ok (.iload_n 1, 1) := by decide +kernel
theorem dX8_worthAsItIs_20 : decode cX8_worthAsItIs 20 = .ok (.isub, 1) := by decide +kernel
theorem dX8_worthAsItIs_21 : decode cX8_worthAsItIs 21 = .ok (.ireturn, 1) := by decide +kernel
theorem iX8_worthAsItIs_8 : ∀ w ∈ wsX80, w ∈ wsX8_worthAsItIs := fun w h => List.mem_cons_of_mem _ (List.mem_append_left _ (List.mem_append_right _ h))
theorem fX8_worthAsItIs_29 : FL mX8_worthAsItIs 29 8 3 := ⟨_, _, _, rfl, by decide, iX8_worthAsItIs_8, by decide +kernel⟩
set_option maxRecDepth 20000 in
theorem ggX8_worthAsItIs_X7_of : GoodIn wsX8_worthAsItIs wsX7_of := goodIn_r _ [6, 7, 21] (by decide +kernel) (by decide +kernel)
set_option maxRecDepth 20000 in
theorem gX8_worthAsItIs_X7_of : GoodIn wsX8_worthAsItIs (wsV RX8 172 RX7 yX7_of wsX7_of) := goodIn_app (goodIn_of _ (by decide +kernel)) ggX8_worthAsItIs_X7_of
theorem wX8_worthAsItIs_172 : CWV mX8_worthAsItIs 172 mX7_of 1 := ⟨gX8_worthAsItIs_X7_of, ⟨_, rfl⟩, rfl, by decide +kernel, by decide +kernel, by decide +kernel⟩
abbrev mX8_worthScale : mT := (yX8_worthScale, RX8, cX8_worthScale, 4, (some .long), wsX8_worthScale)
abbrev rX8_worthScale : Room := { frames := 0, cells := 0, slots := 0, locals := 0 }
theorem dX8_worthScale_0 : decode cX8_worthScale 0 = .ok (.lconst 1, 1) := by decide +kernel
theorem dX8_worthScale_1 : decode cX8_worthScale 1 = .ok (.lstore_n 1, 1) := by decide +kernel
theorem dX8_worthScale_2 : decode cX8_worthScale 2 = .ok (.iload_n 0, 1) := by decide +kernel
theorem dX8_worthScale_3 : decode cX8_worthScale 3 = .ok (.istore_n 3, 1) := by decide +kernel
theorem dX8_worthScale_4 : decode cX8_worthScale 4 = .ok (.iload_n 3, 1) := by decide +kernel
theorem dX8_worthScale_5 : decode cX8_worthScale 5 = .ok (.bipush 9, 2) := by decide +kernel
theorem dX8_worthScale_7 : decode cX8_worthScale 7 = .ok (.if_icmp .ge 15, 3) := by decide +kernel
theorem dX8_worthScale_10 : decode cX8_worthScale 10 = .ok (.lload_n 1, 1) := by decide +kernel
theorem dX8_worthScale_11 : decode cX8_worthScale 11 = .ok (.ldc2_w 323, 3) := by decide +kernel
theorem dX8_worthScale_14 : decode cX8_worthScale 14 = .ok (.lmul, 1) := by decide +kernel
theorem dX8_worthScale_15 : decode cX8_worthScale 15 = .ok (.lstore_n 1, 1) := by decide +kernel
theorem dX8_worthScale_16 : decode cX8_worthScale 16 = .ok (.iinc 3 1, 3) := by decide +kernel
theorem dX8_worthScale_19 : decode cX8_worthScale 19 = .ok (.goto (-15), 3) := by decide +kernel
theorem dX8_worthScale_22 : decode cX8_worthScale 22 = .ok (.lload_n 1, 1) := by decide +kernel
theorem dX8_worthScale_23 : decode cX8_worthScale 23 = .ok (.lreturn, 1) := by decide +kernel
abbrev mX8_clippedScaled : mT := (yX8_clippedScaled, RX8, cX8_clippedScaled, 8, (some .long), wsX8_clippedScaled)
abbrev rX8_clippedScaled : Room := { frames := 1, cells := 0, slots := 0, locals := 23 }
theorem dX8_clippedScaled_0 : decode cX8_clippedScaled 0 = .ok (.iload_n 1, 1) := by decide +kernel
theorem dX8_clippedScaled_1 : decode cX8_clippedScaled 1 = .ok (.iconst 1, 1) := by decide +kernel
theorem dX8_clippedScaled_2 : decode cX8_clippedScaled 2 = .ok (.iadd, 1) := by decide +kernel
theorem dX8_clippedScaled_3 : decode cX8_clippedScaled 3 = .ok (.invokestatic 215, 3) := by decide +kernel
theorem dX8_clippedScaled_6 : decode cX8_clippedScaled 6 = .ok (.lstore 4, 2) := by decide +kernel
theorem dX8_clippedScaled_8 : decode cX8_clippedScaled 8 = .ok (.aload_n 0, 1) := by decide +kernel
theorem dX8_clippedScaled_9 : decode cX8_clippedScaled 9 = .ok (.getfield 29, 3) := by decide +kernel
theorem dX8_clippedScaled_12 : decode cX8_clippedScaled 12 = .ok (.iconst 3, 1) := by decide +kernel
theorem dX8_clippedScaled_13 : decode cX8_clippedScaled 13 = .ok (.invokevirtual 172, 3) := by decide +kernel
theorem dX8_clippedScaled_16 : decode cX8_clippedScaled 16 = .ok (.i2l, 1) := by decide +kernel
theorem dX8_clippedScaled_17 : decode cX8_clippedScaled 17 = .ok (.lstore 6, 2) := by decide +kernel
theorem dX8_clippedScaled_19 : decode cX8_clippedScaled 19 = .ok (.ldc2_w 323, 3) := by decide +kernel
theorem dX8_clippedScaled_22 : decode cX8_clippedScaled 22 = .ok (.lload 6, 2) := by decide +kernel
theorem dX8_clippedScaled_24 : decode cX8_clippedScaled 24 = .ok (.lsub, 1) := by decide +kernel
theorem dX8_clippedScaled_25 : decode cX8_clippedScaled 25 = .ok (.aload_n 0, 1) := by decide +kernel
theorem dX8_clippedScaled_26 : decode cX8_clippedScaled 26 = .ok (.getfield 29, 3) := by decide +kernel
theorem dX8_clippedScaled_29 : decode cX8_clippedScaled 29 = .ok (.iconst 4, 1) := by decide +kernel
theorem dX8_clippedScaled_30 : decode cX8_clippedScaled 30 = .ok (.invokevirtual 172, 3) := by decide +kernel
theorem dX8_clippedScaled_33 : decode cX8_clippedScaled 33 = .ok (.i2l, 1) := by decide +kernel
theorem dX8_clippedScaled_34 : decode cX8_clippedScaled 34 = .ok (.lload 4, 2) := by decide +kernel
theorem dX8_clippedScaled_36 : decode cX8_clippedScaled 36 = .ok (.lmul, 1) := by decide +kernel
theorem dX8_clippedScaled_37 : decode cX8_clippedScaled 37 = .ok (.lload_n 2, 1) := by decide +kernel
theorem dX8_clippedScaled_38 : decode cX8_clippedScaled 38 = .ok (.ladd, 1) := by decide +kernel
theorem dX8_clippedScaled_39 : decode cX8_clippedScaled 39 = .ok (.lmul, 1) := by decide +kernel
theorem dX8_clippedScaled_40 : decode cX8_clippedScaled 40 = .ok (.lload 6, 2) := by decide +kernel
theorem dX8_clippedScaled_42 : decode cX8_clippedScaled 42 = .ok (.aload_n 0, 1) := by decide +kernel
theorem dX8_clippedScaled_43 : decode cX8_clippedScaled 43 = .ok (.getfield 29, 3) := by decide +kernel
theorem dX8_clippedScaled_46 : decode cX8_clippedScaled 46 = .ok (.iconst 2, 1) := by decide +kernel
theorem dX8_clippedScaled_47 : decode cX8_clippedScaled 47 = .ok (.invokevirtual 172, 3) := by decide +kernel
theorem dX8_clippedScaled_50 : decode cX8_clippedScaled 50 = .ok (.i2l, 1) := by decide +kernel
theorem dX8_clippedScaled_51 : decode cX8_clippedScaled 51 = .ok (.lmul, 1) := by decide +kernel
theorem dX8_clippedScaled_52 : decode cX8_clippedScaled 52 = .ok (.lload 4, 2) := by decide +kernel
theorem dX8_clippedScaled_54 : decode cX8_clippedScaled 54 = .ok (.lmul, 1) := by decide +kernel
theorem dX8_clippedScaled_55 : decode cX8_clippedScaled 55 = .ok (.lsub, 1) := by decide +kernel
theorem dX8_clippedScaled_56 : decode cX8_clippedScaled 56 = .ok (.lreturn, 1) := by decide +kernel
theorem iX8_clippedScaled_8 : ∀ w ∈ wsX80, w ∈ wsX8_clippedScaled := fun w h => List.mem_cons_of_mem _ (List.mem_append_left _ (List.mem_append_right _ h))
theorem fX8_clippedScaled_29 : FL mX8_clippedScaled 29 8 3 := ⟨_, _, _, rfl, by decide, iX8_clippedScaled_8, by decide +kernel⟩
set_option maxRecDepth 20000 in
theorem ggX8_clippedScaled_X7_of : GoodIn wsX8_clippedScaled wsX7_of := goodIn_r _ [11, 12, 26] (by decide +kernel) (by decide +kernel)
set_option maxRecDepth 20000 in
theorem gX8_clippedScaled_X7_of : GoodIn wsX8_clippedScaled (wsV RX8 172 RX7 yX7_of wsX7_of) := goodIn_app (goodIn_of _ (by decide +kernel)) ggX8_clippedScaled_X7_of
theorem wX8_clippedScaled_172 : CWV mX8_clippedScaled 172 mX7_of 1 := ⟨gX8_clippedScaled_X7_of, ⟨_, rfl⟩, rfl, by decide +kernel, by decide +kernel, by decide +kernel⟩
set_option maxRecDepth 20000 in
theorem ggX8_clippedScaled_X8_worthScale : GoodIn wsX8_clippedScaled wsX8_worthScale := goodIn_r _ [6, 2] (by decide +kernel) (by decide +kernel)
set_option maxRecDepth 20000 in
theorem gX8_clippedScaled_X8_worthScale : GoodIn wsX8_clippedScaled (va_wsS RX8 215 yX8_worthScale wsX8_worthScale) := goodIn_app (goodIn_of _ (by decide +kernel)) ggX8_clippedScaled_X8_worthScale
theorem wX8_clippedScaled_215 : CWS mX8_clippedScaled 215 mX8_worthScale 1 := ⟨gX8_clippedScaled_X8_worthScale, ⟨_, rfl⟩, by decide +kernel, by decide +kernel, by decide +kernel⟩
abbrev mX8_worthScaled : mT := (yX8_worthScaled, RX8, cX8_worthScaled, 5, (some .long), wsX8_worthScaled)
abbrev rX8_worthScaled : Room := { frames := 2, cells := 0, slots := 0, locals := 50 }
theorem dX8_worthScaled_0 : decode cX8_worthScaled 0 = .ok (.aload_n 0, 1) := by decide +kernel
theorem dX8_worthScaled_1 : decode cX8_worthScaled 1 = .ok (.bipush 9, 2) := by decide +kernel
theorem dX8_worthScaled_3 : decode cX8_worthScaled 3 = .ok (.invokevirtual 325, 3) := by decide +kernel
theorem dX8_worthScaled_6 : decode cX8_worthScaled 6 = .ok (.i2l, 1) := by decide +kernel
theorem dX8_worthScaled_7 : decode cX8_worthScaled 7 = .ok (.lstore_n 2, 1) := by decide +kernel
theorem dX8_worthScaled_8 : decode cX8_worthScaled 8 = .ok (.bipush 8, 2) := by decide +kernel
theorem dX8_worthScaled_10 : decode cX8_worthScaled 10 = .ok (.istore 4, 2) := by decide +kernel
theorem dX8_worthScaled_12 : decode cX8_worthScaled 12 = .ok (.iload 4, 2) := by decide +kernel
theorem dX8_worthScaled_14 : decode cX8_worthScaled 14 = .ok (.iload_n 1, 1) := by decide +kernel
theorem dX8_worthScaled_15 : decode cX8_worthScaled 15 = .ok (.if_icmp .lt 33, 3) := by decide +kernel
theorem dX8_worthScaled_18 : decode cX8_worthScaled 18 = .ok (.aload_n 0, 1) := by decide +kernel
theorem dX8_worthScaled_19 : decode cX8_worthScaled 19 = .ok (.iload 4, 2) := by decide +kernel
theorem dX8_worthScaled_21 : decode cX8_worthScaled 21 = .ok (.invokevirtual 325, 3) := by decide +kernel
theorem dX8_worthScaled_24 : decode cX8_worthScaled 24 = .ok (.i2l, 1) := by decide +kernel
theorem dX8_worthScaled_25 : decode cX8_worthScaled 25 = .ok (.iload 4, 2) := by decide +kernel
theorem dX8_worthScaled_27 : decode cX8_worthScaled 27 = .ok (.invokestatic 215, 3) := by decide +kernel
theorem dX8_worthScaled_30 : decode cX8_worthScaled 30 = .ok (.lmul, 1) := by decide +kernel
theorem dX8_worthScaled_31 : decode cX8_worthScaled 31 = .ok (.aload_n 0, 1) := by decide +kernel
theorem dX8_worthScaled_32 : decode cX8_worthScaled 32 = .ok (.iload 4, 2) := by decide +kernel
theorem dX8_worthScaled_34 : decode cX8_worthScaled 34 = .ok (.lload_n 2, 1) := by decide +kernel
theorem dX8_worthScaled_35 : decode cX8_worthScaled 35 = .ok (.invokevirtual 328, 3) := by decide +kernel
theorem dX8_worthScaled_38 : decode cX8_worthScaled 38 = .ok (.invokestatic 332, 3) := by decide +kernel
theorem dX8_worthScaled_41 : decode cX8_worthScaled 41 = .ok (.lstore_n 2, 1) := by decide +kernel
theorem dX8_worthScaled_42 : decode cX8_worthScaled 42 = .ok (.iinc 4 (-1), 3) := by decide +kernel
theorem dX8_worthScaled_45 : decode cX8_worthScaled 45 = .ok (.goto (-33), 3) := by decide +kernel
theorem dX8_worthScaled_48 : decode cX8_worthScaled 48 = .ok (.lload_n 2, 1) := by decide +kernel
theorem dX8_worthScaled_49 : decode cX8_worthScaled 49 = .ok (.lreturn, 1) := by decide +kernel
set_option maxRecDepth 20000 in
theorem ggX8_worthScaled_X8_worthScale : GoodIn wsX8_worthScaled wsX8_worthScale := goodIn_r _ [19, 20] (by decide +kernel) (by decide +kernel)
set_option maxRecDepth 20000 in
theorem gX8_worthScaled_X8_worthScale : GoodIn wsX8_worthScaled (va_wsS RX8 215 yX8_worthScale wsX8_worthScale) := goodIn_app (goodIn_of _ (by decide +kernel)) ggX8_worthScaled_X8_worthScale
theorem wX8_worthScaled_215 : CWS mX8_worthScaled 215 mX8_worthScale 1 := ⟨gX8_worthScaled_X8_worthScale, ⟨_, rfl⟩, by decide +kernel, by decide +kernel, by decide +kernel⟩
set_option maxRecDepth 20000 in
theorem ggX8_worthScaled_X8_worthAsItIs : GoodIn wsX8_worthScaled wsX8_worthAsItIs := goodIn_r _ [9, 10, 11, 12, 13, 14, 15, 16, 25, 26, 27, 28, 29, 30, 31, 32, 33, 34, 35, 36, 37, 38] (by decide +kernel) (by decide +kernel)
set_option maxRecDepth 20000 in
theorem gX8_worthScaled_X8_worthAsItIs : GoodIn wsX8_worthScaled (wsV RX8 325 RX8 yX8_worthAsItIs wsX8_worthAsItIs) := goodIn_app (goodIn_of _ (by decide +kernel)) ggX8_worthScaled_X8_worthAsItIs
theorem wX8_worthScaled_325 : CWV mX8_worthScaled 325 mX8_worthAsItIs 1 := ⟨gX8_worthScaled_X8_worthAsItIs, ⟨_, rfl⟩, rfl, by decide +kernel, by decide +kernel, by decide +kernel⟩
set_option maxRecDepth 20000 in
theorem ggX8_worthScaled_X8_clippedScaled : GoodIn wsX8_worthScaled wsX8_clippedScaled := goodIn_r _ [24, 10, 20, 17, 18, 8, 19, 11, 12, 13, 14, 15, 16, 25, 26, 27, 28, 29, 30, 31, 32, 33, 34, 35, 36, 37, 38] (by decide +kernel) (by decide +kernel)
set_option maxRecDepth 20000 in
theorem gX8_worthScaled_X8_clippedScaled : GoodIn wsX8_worthScaled (wsV RX8 328 RX8 yX8_clippedScaled wsX8_clippedScaled) := goodIn_app (goodIn_of _ (by decide +kernel)) ggX8_worthScaled_X8_clippedScaled
theorem wX8_worthScaled_328 : CWV mX8_worthScaled 328 mX8_clippedScaled 2 := ⟨gX8_worthScaled_X8_clippedScaled, ⟨_, rfl⟩, rfl, by decide +kernel, by decide +kernel, by decide +kernel⟩
abbrev mX8_clippedUntil : mT := (yX8_clippedUntil, RX8, cX8_clippedUntil, 3, (some .int), wsX8_clippedUntil)
abbrev rX8_clippedUntil : Room := { frames := 3, cells := 0, slots := 0, locals := 74 }
theorem dX8_clippedUntil_0 : decode cX8_clippedUntil 0 = .ok (.iload_n 1, 1) := by decide +kernel
theorem dX8_clippedUntil_1 : decode cX8_clippedUntil 1 = .ok (.istore_n 2, 1) := by decide +kernel
theorem dX8_clippedUntil_2 : decode cX8_clippedUntil 2 = .ok (.iload_n 2, 1) := by decide +kernel
theorem dX8_clippedUntil_3 : decode cX8_clippedUntil 3 = .ok (.bipush 9, 2) := by decide +kernel
theorem dX8_clippedUntil_5 : decode cX8_clippedUntil 5 = .ok (.if_icmp .ge 38, 3) := by decide +kernel
theorem dX8_clippedUntil_8 : decode cX8_clippedUntil 8 = .ok (.aload_n 0, 1) := by decide +kernel
theorem dX8_clippedUntil_9 : decode cX8_clippedUntil 9 = .ok (.iload_n 2, 1) := by decide +kernel
theorem dX8_clippedUntil_10 : decode cX8_clippedUntil 10 = .ok (.aload_n 0, 1) := by decide +kernel
theorem dX8_clippedUntil_11 : decode cX8_clippedUntil 11 = .ok (.iload_n 2, 1) := by decide +kernel
theorem dX8_clippedUntil_12 : decode cX8_clippedUntil 12 = .ok (.iconst 1, 1) := by decide +kernel
theorem dX8_clippedUntil_13 : decode cX8_clippedUntil 13 = .ok (.iadd, 1) := by decide +kernel
theorem dX8_clippedUntil_14 : decode cX8_clippedUntil 14 = .ok (.invokevirtual 212, 3) := by decide +kernel
theorem dX8_clippedUntil_17 : decode cX8_clippedUntil 17 = .ok (.invokevirtual 328, 3) := by decide +kernel
theorem dX8_clippedUntil_20 : decode cX8_clippedUntil 20 = .ok (.aload_n 0, 1) := by decide +kernel
theorem dX8_clippedUntil_21 : decode cX8_clippedUntil 21 = .ok (.iload_n 2, 1) := by decide +kernel
theorem dX8_clippedUntil_22 : decode cX8_clippedUntil 22 = .ok (.invokevirtual 325, 3) := by decide +kernel
theorem dX8_clippedUntil_25 : decode cX8_clippedUntil 25 = .ok (.i2l, 1) := by decide +kernel
theorem dX8_clippedUntil_26 : decode cX8_clippedUntil 26 = .ok (.iload_n 2, 1) := by decide +kernel
theorem dX8_clippedUntil_27 : decode cX8_clippedUntil 27 = .ok (.invokestatic 215, 3) := by decide +kernel
theorem dX8_clippedUntil_30 : decode cX8_clippedUntil 30 = .ok (.lmul, 1) := by decide +kernel
theorem dX8_clippedUntil_31 : decode cX8_clippedUntil 31 = .ok (.lcmp, 1) := by decide +kernel
theorem dX8_clippedUntil_32 : decode cX8_clippedUntil 32 = .ok (.ifCond .gt 5, 3) := by decide +kernel
theorem dX8_clippedUntil_35 : decode cX8_clippedUntil 35 = .ok (.iload_n 2, 1) := by decide +kernel
theorem dX8_clippedUntil_36 : decode cX8_clippedUntil 36 = .ok (.ireturn, 1) := by decide +kernel
theorem dX8_clippedUntil_37 : decode cX8_clippedUntil 37 = .ok (.iinc 2 1, 3) := by decide +kernel
theorem dX8_clippedUntil_40 : decode cX8_clippedUntil 40 = .ok (.goto (-38), 3) := by decide +kernel
theorem dX8_clippedUntil_43 : decode cX8_clippedUntil 43 = .ok (.bipush 9, 2) := by decide +kernel
theorem dX8_clippedUntil_45 : decode cX8_clippedUntil 45 = .ok (.ireturn, 1) := by decide +kernel
set_option maxRecDepth 20000 in
theorem ggX8_clippedUntil_X8_worthScaled : GoodIn wsX8_clippedUntil wsX8_worthScaled := goodIn_r _ [5, 6, 7, 8, 9, 10, 11, 12, 4, 13, 14, 15, 16, 17, 18, 19, 20, 21, 22, 23, 24, 25, 26, 27, 28, 29, 30, 31, 32, 33, 34, 35, 36, 37, 38, 39, 40, 41, 42] (by decide +kernel) (by decide +kernel)
set_option maxRecDepth 20000 in
theorem gX8_clippedUntil_X8_worthScaled : GoodIn wsX8_clippedUntil (wsV RX8 212 RX8 yX8_worthScaled wsX8_worthScaled) := goodIn_app (goodIn_of _ (by decide +kernel)) ggX8_clippedUntil_X8_worthScaled
theorem wX8_clippedUntil_212 : CWV mX8_clippedUntil 212 mX8_worthScaled 1 := ⟨gX8_clippedUntil_X8_worthScaled, ⟨_, rfl⟩, rfl, by decide +kernel, by decide +kernel, by decide +kernel⟩
set_option maxRecDepth 20000 in
theorem ggX8_clippedUntil_X8_worthScale : GoodIn wsX8_clippedUntil wsX8_worthScale := goodIn_r _ [23, 24] (by decide +kernel) (by decide +kernel)
set_option maxRecDepth 20000 in
theorem gX8_clippedUntil_X8_worthScale : GoodIn wsX8_clippedUntil (va_wsS RX8 215 yX8_worthScale wsX8_worthScale) := goodIn_app (goodIn_of _ (by decide +kernel)) ggX8_clippedUntil_X8_worthScale
theorem wX8_clippedUntil_215 : CWS mX8_clippedUntil 215 mX8_worthScale 1 := ⟨gX8_clippedUntil_X8_worthScale, ⟨_, rfl⟩, by decide +kernel, by decide +kernel, by decide +kernel⟩
set_option maxRecDepth 20000 in
theorem ggX8_clippedUntil_X8_worthAsItIs : GoodIn wsX8_clippedUntil wsX8_worthAsItIs := goodIn_r _ [13, 14, 15, 16, 17, 18, 19, 20, 29, 30, 31, 32, 33, 34, 35, 36, 37, 38, 39, 40, 41, 42] (by decide +kernel) (by decide +kernel)
set_option maxRecDepth 20000 in
theorem gX8_clippedUntil_X8_worthAsItIs : GoodIn wsX8_clippedUntil (wsV RX8 325 RX8 yX8_worthAsItIs wsX8_worthAsItIs) := goodIn_app (goodIn_of _ (by decide +kernel)) ggX8_clippedUntil_X8_worthAsItIs
theorem wX8_clippedUntil_325 : CWV mX8_clippedUntil 325 mX8_worthAsItIs 1 := ⟨gX8_clippedUntil_X8_worthAsItIs, ⟨_, rfl⟩, rfl, by decide +kernel, by decide +kernel, by decide +kernel⟩
set_option maxRecDepth 20000 in
theorem ggX8_clippedUntil_X8_clippedScaled : GoodIn wsX8_clippedUntil wsX8_clippedScaled := goodIn_r _ [28, 14, 24, 21, 22, 4, 23, 15, 16, 17, 18, 19, 20, 29, 30, 31, 32, 33, 34, 35, 36, 37, 38, 39, 40, 41, 42] (by decide +kernel) (by decide +kernel)
set_option maxRecDepth 20000 in
theorem gX8_clippedUntil_X8_clippedScaled : GoodIn wsX8_clippedUntil (wsV RX8 328 RX8 yX8_clippedScaled wsX8_clippedScaled) := goodIn_app (goodIn_of _ (by decide +kernel)) ggX8_clippedUntil_X8_clippedScaled
theorem wX8_clippedUntil_328 : CWV mX8_clippedUntil 328 mX8_clippedScaled 2 := ⟨gX8_clippedUntil_X8_clippedScaled, ⟨_, rfl⟩, rfl, by decide +kernel, by decide +kernel, by decide +kernel⟩
abbrev mX8_heldAtWhenMelted : mT := (yX8_heldAtWhenMelted, RX8, cX8_heldAtWhenMelted, 8, (some .int), wsX8_heldAtWhenMelted)
abbrev rX8_heldAtWhenMelted : Room := { frames := 2, cells := 0, slots := 0, locals := 42 }
theorem dX8_heldAtWhenMelted_0 : decode cX8_heldAtWhenMelted 0 = .ok (.iconst 0, 1) := by decide +kernel
theorem dX8_heldAtWhenMelted_1 : decode cX8_heldAtWhenMelted 1 = .ok (.istore 4, 2) := by decide +kernel
theorem dX8_heldAtWhenMelted_3 : decode cX8_heldAtWhenMelted 3 = .ok (.iconst 0, 1) := by decide +kernel
theorem dX8_heldAtWhenMelted_4 : decode cX8_heldAtWhenMelted 4 = .ok (.istore 5, 2) := by decide +kernel
theorem dX8_heldAtWhenMelted_6 : decode cX8_heldAtWhenMelted 6 = .ok (.iconst 0, 1) := by decide +kernel
theorem dX8_heldAtWhenMelted_7 : decode cX8_heldAtWhenMelted 7 = .ok (.istore 6, 2) := by decide +kernel
theorem dX8_heldAtWhenMelted_9 : decode cX8_heldAtWhenMelted 9 = .ok (.iload 6, 2) := by decide +kernel
theorem dX8_heldAtWhenMelted_11 : decode cX8_heldAtWhenMelted 11 = .ok (.bipush 10, 2) := by decide +kernel
theorem dX8_heldAtWhenMelted_13 : decode cX8_heldAtWhenMelted 13 = .ok (.if_icmp .ge 57, 3) := by decide +kernel
theorem dX8_heldAtWhenMelted_16 : decode cX8_heldAtWhenMelted 16 = .ok (.aload_n 0, 1) := by decide +kernel
theorem dX8_heldAtWhenMelted_17 : decode cX8_heldAtWhenMelted 17 = .ok (.getfield 19, 3) := by decide +kernel
theorem dX8_heldAtWhenMelted_20 : decode cX8_heldAtWhenMelted 20 = .ok (.iload_n 1, 1) := by decide +kernel
theorem dX8_heldAtWhenMelted_21 : decode cX8_heldAtWhenMelted 21 = .ok (.iload 6, 2) := by decide +kernel
theorem dX8_heldAtWhenMelted_23 : decode cX8_heldAtWhenMelted 23 = .ok (.invokevirtual 135, 3) := by decide +kernel
theorem dX8_heldAtWhenMelted_26 : decode cX8_heldAtWhenMelted 26 = .ok (.istore 7, 2) := by decide +kernel
theorem dX8_heldAtWhenMelted_28 : decode cX8_heldAtWhenMelted 28 = .ok (.iload 6, 2) := by decide +kernel
theorem dX8_heldAtWhenMelted_30 : decode cX8_heldAtWhenMelted 30 = .ok (.iload_n 2, 1) := by decide +kernel
theorem dX8_heldAtWhenMelted_31 : decode cX8_heldAtWhenMelted 31 = .ok (.if_icmp .lt 19, 3) := by decide +kernel
theorem dX8_heldAtWhenMelted_34 : decode cX8_heldAtWhenMelted 34 = .ok (.iload 5, 2) := by decide +kernel
theorem dX8_heldAtWhenMelted_36 : decode cX8_heldAtWhenMelted 36 = .ok (.iload 7, 2) := by decide +kernel
theorem dX8_heldAtWhenMelted_38 : decode cX8_heldAtWhenMelted 38 = .ok (.bipush 10, 2) := by decide +kernel
theorem dX8_heldAtWhenMelted_40 : decode cX8_heldAtWhenMelted 40 = .ok (.iload 6, 2) := by decide +kernel
theorem dX8_heldAtWhenMelted_42 : decode cX8_heldAtWhenMelted 42 = .ok (.isub, 1) := by decide +kernel
theorem dX8_heldAtWhenMelted_43 : decode cX8_heldAtWhenMelted 43 = .ok (.imul, 1) := by decide +kernel
theorem dX8_heldAtWhenMelted_44 : decode cX8_heldAtWhenMelted 44 = .ok (.iadd, 1) := by decide +kernel
theorem dX8_heldAtWhenMelted_45 : decode cX8_heldAtWhenMelted 45 = .ok (.istore 5, 2) := by decide +kernel
theorem dX8_heldAtWhenMelted_47 : decode cX8_heldAtWhenMelted 47 = .ok (.goto 17, 3) := by decide +kernel
theorem dX8_heldAtWhenMelted_50 : decode cX8_heldAtWhenMelted 50 = .ok (.iload 4, 2) := by decide +kernel
theorem dX8_heldAtWhenMelted_52 : decode cX8_heldAtWhenMelted 52 = .ok (.iload 7, 2) := by decide +kernel
theorem dX8_heldAtWhenMelted_54 : decode cX8_heldAtWhenMelted 54 = .ok (.aload_n 0, 1) := by decide +kernel
theorem dX8_heldAtWhenMelted_55 : decode cX8_heldAtWhenMelted 55 = .ok (.iload 6, 2) := by decide +kernel
theorem dX8_heldAtWhenMelted_57 : decode cX8_heldAtWhenMelted 57 = .ok (.invokevirtual 325, 3) := by decide +kernel
theorem dX8_heldAtWhenMelted_60 : decode cX8_heldAtWhenMelted 60 = .ok (.imul, 1) := by decide +kernel
theorem dX8_heldAtWhenMelted_61 : decode cX8_heldAtWhenMelted 61 = .ok (.iadd, 1) := by decide +kernel
theorem dX8_heldAtWhenMelted_62 : decode cX8_heldAtWhenMelted 62 = .ok (.istore 4, 2) := by decide +kernel
theorem dX8_heldAtWhenMelted_64 : decode cX8_heldAtWhenMelted 64 = .ok (.iinc 6 1, 3) := by decide +kernel
theorem dX8_heldAtWhenMelted_67 : decode cX8_heldAtWhenMelted 67 = .ok (.goto (-58), 3) := by decide +kernel
theorem dX8_heldAtWhenMelted_70 : decode cX8_heldAtWhenMelted 70 = .ok (.iload 4, 2) := by decide +kernel
theorem dX8_heldAtWhenMelted_72 : decode cX8_heldAtWhenMelted 72 = .ok (.iload 5, 2) := by decide +kernel
theorem dX8_heldAtWhenMelted_74 : decode cX8_heldAtWhenMelted 74 = .ok (.bipush 100, 2) := by decide +kernel
theorem dX8_heldAtWhenMelted_76 : decode cX8_heldAtWhenMelted 76 = .ok (.iload_n 3, 1) := by decide +kernel
theorem dX8_heldAtWhenMelted_77 : decode cX8_heldAtWhenMelted 77 = .ok (.isub, 1) := by decide +kernel
theorem dX8_heldAtWhenMelted_78 : decode cX8_heldAtWhenMelted 78 = .ok (.imul, 1) := by decide +kernel
theorem dX8_heldAtWhenMelted_79 : decode cX8_heldAtWhenMelted 79 = .ok (.sipush 1000, 3) := by decide +kernel
theorem dX8_heldAtWhenMelted_82 : decode cX8_heldAtWhenMelted 82 = .ok (.idiv, 1) := by decide +kernel
theorem dX8_heldAtWhenMelted_83 : decode cX8_heldAtWhenMelted 83 = .ok (.bipush 10, 2) := by decide +kernel
theorem dX8_heldAtWhenMelted_85 : decode cX8_heldAtWhenMelted 85 = .ok (.imul, 1) := by decide +kernel
theorem dX8_heldAtWhenMelted_86 : decode cX8_heldAtWhenMelted 86 = .ok (.iadd, 1) := by decide +kernel
theorem dX8_heldAtWhenMelted_87 : decode cX8_heldAtWhenMelted 87 = .ok (.ireturn, 1) := by decide +kernel
theorem iX8_heldAtWhenMelted_8 : ∀ w ∈ wsX80, w ∈ wsX8_heldAtWhenMelted := fun w h => List.mem_cons_of_mem _ (List.mem_append_left _ (List.mem_append_left _ (List.mem_append_right _ h)))
theorem fX8_heldAtWhenMelted_19 : FL mX8_heldAtWhenMelted 19 8 1 := ⟨_, _, _, rfl, by decide, iX8_heldAtWhenMelted_8, by decide +kernel⟩
set_option maxRecDepth 20000 in
theorem ggX8_heldAtWhenMelted_X4_held : GoodIn wsX8_heldAtWhenMelted wsX4_held := goodIn_r _ [6, 7, 33] (by decide +kernel) (by decide +kernel)
set_option maxRecDepth 20000 in
theorem gX8_heldAtWhenMelted_X4_held : GoodIn wsX8_heldAtWhenMelted (wsV RX8 135 RX4 yX4_held wsX4_held) := goodIn_app (goodIn_of _ (by decide +kernel)) ggX8_heldAtWhenMelted_X4_held
theorem wX8_heldAtWhenMelted_135 : CWV mX8_heldAtWhenMelted 135 mX4_held 2 := ⟨gX8_heldAtWhenMelted_X4_held, ⟨_, rfl⟩, rfl, by decide +kernel, by decide +kernel, by decide +kernel⟩
set_option maxRecDepth 20000 in
theorem ggX8_heldAtWhenMelted_X8_worthAsItIs : GoodIn wsX8_heldAtWhenMelted wsX8_worthAsItIs := goodIn_r _ [12, 13, 14, 15, 16, 17, 18, 19, 20, 21, 22, 23, 24, 25, 26, 27, 28, 29, 30, 31, 32, 34] (by decide +kernel) (by decide +kernel)
set_option maxRecDepth 20000 in
theorem gX8_heldAtWhenMelted_X8_worthAsItIs : GoodIn wsX8_heldAtWhenMelted (wsV RX8 325 RX8 yX8_worthAsItIs wsX8_worthAsItIs) := goodIn_app (goodIn_of _ (by decide +kernel)) ggX8_heldAtWhenMelted_X8_worthAsItIs
theorem wX8_heldAtWhenMelted_325 : CWV mX8_heldAtWhenMelted 325 mX8_worthAsItIs 1 := ⟨gX8_heldAtWhenMelted_X8_worthAsItIs, ⟨_, rfl⟩, rfl, by decide +kernel, by decide +kernel, by decide +kernel⟩
abbrev mX8_asWay : mT := (yX8_asWay, RX8, cX8_asWay, 2, (some .int), wsX8_asWay)
abbrev rX8_asWay : Room := { frames := 3, cells := 0, slots := 0, locals := 67 }
theorem dX8_asWay_0 : decode cX8_asWay 0 = .ok (.aload_n 0, 1) := by decide +kernel
theorem dX8_asWay_1 : decode cX8_asWay 1 = .ok (.dup, 1) := by decide +kernel
theorem dX8_asWay_2 : decode cX8_asWay 2 = .ok (.getfield 78, 3) := by decide +kernel
theorem dX8_asWay_5 : decode cX8_asWay 5 = .ok (.lconst 1, 1) := by decide +kernel
theorem dX8_asWay_6 : decode cX8_asWay 6 = .ok (.ladd, 1) := by decide +kernel
theorem dX8_asWay_7 : decode cX8_asWay 7 = .ok (.putfield 78, 3) := by decide +kernel
theorem dX8_asWay_10 : decode cX8_asWay 10 = .ok (.aload_n 0, 1) := by decide +kernel
theorem dX8_asWay_11 : decode cX8_asWay 11 = .ok (.getfield 19, 3) := by decide +kernel
theorem dX8_asWay_14 : decode cX8_asWay 14 = .ok (.iload_n 1, 1) := by decide +kernel
theorem dX8_asWay_15 : decode cX8_asWay 15 = .ok (.invokevirtual 128, 3) := by decide +kernel
theorem dX8_asWay_18 : decode cX8_asWay 18 = .ok (.ireturn, 1) := by decide +kernel
theorem iX8_asWay_8 : ∀ w ∈ wsX80, w ∈ wsX8_asWay := fun w h => List.mem_cons_of_mem _ (List.mem_append_left _ (List.mem_append_right _ h))
theorem fX8_asWay_19 : FL mX8_asWay 19 8 1 := ⟨_, _, _, rfl, by decide, iX8_asWay_8, by decide +kernel⟩
theorem fX8_asWay_78 : FL mX8_asWay 78 8 12 := ⟨_, _, _, rfl, by decide, iX8_asWay_8, by decide +kernel⟩
theorem pX8_asWay_78 : FP mX8_asWay 78 8 12 .long false := ⟨_, _, _, tyX8, rfl, by decide, iX8_asWay_8, by decide +kernel, tyX8_ok, nmX8, rfl, rfl, fun z => absurd z (by decide)⟩
set_option maxRecDepth 20000 in
theorem ggX8_asWay_X4_coinsOf : GoodIn wsX8_asWay wsX4_coinsOf := goodIn_r _ [7, 8, 9, 10, 6, 11, 12, 13, 14, 15, 16, 30] (by decide +kernel) (by decide +kernel)
set_option maxRecDepth 20000 in
theorem gX8_asWay_X4_coinsOf : GoodIn wsX8_asWay (wsV RX8 128 RX4 yX4_coinsOf wsX4_coinsOf) := goodIn_app (goodIn_of _ (by decide +kernel)) ggX8_asWay_X4_coinsOf
theorem wX8_asWay_128 : CWV mX8_asWay 128 mX4_coinsOf 1 := ⟨gX8_asWay_X4_coinsOf, ⟨_, rfl⟩, rfl, by decide +kernel, by decide +kernel, by decide +kernel⟩
abbrev mX8_asTale : mT := (yX8_asTale, RX8, cX8_asTale, 2, (some .int), wsX8_asTale)
abbrev rX8_asTale : Room := { frames := 4, cells := 0, slots := 0, locals := 88 }
theorem dX8_asTale_0 : decode cX8_asTale 0 = .ok (.aload_n 0, 1) := by decide +kernel
theorem dX8_asTale_1 : decode cX8_asTale 1 = .ok (.dup, 1) := by decide +kernel
theorem dX8_asTale_2 : decode cX8_asTale 2 = .ok (.getfield 78, 3) := by decide +kernel
theorem dX8_asTale_5 : decode cX8_asTale 5 = .ok (.ldc2_w 323, 3) := by decide +kernel
theorem dX8_asTale_8 : decode cX8_asTale 8 = .ok (.ladd, 1) := by decide +kernel
theorem dX8_asTale_9 : decode cX8_asTale 9 = .ok (.putfield 78, 3) := by decide +kernel
theorem dX8_asTale_12 : decode cX8_asTale 12 = .ok (.aload_n 0, 1) := by decide +kernel
theorem dX8_asTale_13 : decode cX8_asTale 13 = .ok (.iload_n 1, 1) := by decide +kernel
theorem dX8_asTale_14 : decode cX8_asTale 14 = .ok (.invokevirtual 264, 3) := by decide +kernel
theorem dX8_asTale_17 : decode cX8_asTale 17 = .ok (.iconst 1, 1) := by decide +kernel
theorem dX8_asTale_18 : decode cX8_asTale 18 = .ok (.iadd, 1) := by decide +kernel
theorem dX8_asTale_19 : decode cX8_asTale 19 = .ok (.ireturn, 1) := by decide +kernel
theorem iX8_asTale_8 : ∀ w ∈ wsX80, w ∈ wsX8_asTale := fun w h => List.mem_cons_of_mem _ (List.mem_append_left _ (List.mem_append_right _ h))
theorem fX8_asTale_78 : FL mX8_asTale 78 8 12 := ⟨_, _, _, rfl, by decide, iX8_asTale_8, by decide +kernel⟩
theorem pX8_asTale_78 : FP mX8_asTale 78 8 12 .long false := ⟨_, _, _, tyX8, rfl, by decide, iX8_asTale_8, by decide +kernel, tyX8_ok, nmX8, rfl, rfl, fun z => absurd z (by decide)⟩
set_option maxRecDepth 20000 in
theorem ggX8_asTale_X8_asWay : GoodIn wsX8_asTale wsX8_asWay := goodIn_r _ [7, 1, 8, 9, 10, 11, 12, 13, 14, 15, 16, 17, 18, 19, 20, 21, 22, 23, 24, 25, 26, 27, 28, 29, 30, 31, 32, 33, 34, 35, 36] (by decide +kernel) (by decide +kernel)
set_option maxRecDepth 20000 in
theorem gX8_asTale_X8_asWay : GoodIn wsX8_asTale (wsV RX8 264 RX8 yX8_asWay wsX8_asWay) := goodIn_app (goodIn_of _ (by decide +kernel)) ggX8_asTale_X8_asWay
theorem wX8_asTale_264 : CWV mX8_asTale 264 mX8_asWay 1 := ⟨gX8_asTale_X8_asWay, ⟨_, rfl⟩, rfl, by decide +kernel, by decide +kernel, by decide +kernel⟩
abbrev mX8_asLook : mT := (yX8_asLook, RX8, cX8_asLook, 2, (some .int), wsX8_asLook)
abbrev rX8_asLook : Room := { frames := 4, cells := 0, slots := 0, locals := 88 }
theorem dX8_asLook_0 : decode cX8_asLook 0 = .ok (.aload_n 0, 1) := by decide +kernel
theorem dX8_asLook_1 : decode cX8_asLook 1 = .ok (.dup, 1) := by decide +kernel
theorem dX8_asLook_2 : decode cX8_asLook 2 = .ok (.getfield 78, 3) := by decide +kernel
theorem dX8_asLook_5 : decode cX8_asLook 5 = .ok (.ldc2_w 335, 3) := by decide +kernel
theorem dX8_asLook_8 : decode cX8_asLook 8 = .ok (.ladd, 1) := by decide +kernel
theorem dX8_asLook_9 : decode cX8_asLook 9 = .ok (.putfield 78, 3) := by decide +kernel
theorem dX8_asLook_12 : decode cX8_asLook 12 = .ok (.aload_n 0, 1) := by decide +kernel
theorem dX8_asLook_13 : decode cX8_asLook 13 = .ok (.iload_n 1, 1) := by decide +kernel
theorem dX8_asLook_14 : decode cX8_asLook 14 = .ok (.invokevirtual 264, 3) := by decide +kernel
theorem dX8_asLook_17 : decode cX8_asLook 17 = .ok (.aload_n 0, 1) := by decide +kernel
theorem dX8_asLook_18 : decode cX8_asLook 18 = .ok (.getfield 29, 3) := by decide +kernel
theorem dX8_asLook_21 : decode cX8_asLook 21 = .ok (.iconst 1, 1) := by decide +kernel
theorem dX8_asLook_22 : decode cX8_asLook 22 = .ok (.invokevirtual 172, 3) := by decide +kernel
theorem dX8_asLook_25 : decode cX8_asLook 25 = .ok (.aload_n 0, 1) := by decide +kernel
theorem dX8_asLook_26 : decode cX8_asLook 26 = .ok (.getfield 19, 3) := by decide +kernel
theorem dX8_asLook_29 : decode cX8_asLook 29 = .ok (.iload_n 1, 1) := by decide +kernel
theorem dX8_asLook_30 : decode cX8_asLook 30 = .ok (.aload_n 0, 1) := by decide +kernel
theorem dX8_asLook_31 : decode cX8_asLook 31 = .ok (.getfield 29, 3) := by decide +kernel
theorem dX8_asLook_34 : decode cX8_asLook 34 = .ok (.iconst 0, 1) := by decide +kernel
theorem dX8_asLook_35 : decode cX8_asLook 35 = .ok (.invokevirtual 172, 3) := by decide +kernel
theorem dX8_asLook_38 : decode cX8_asLook 38 = .ok (.invokevirtual 337, 3) := by decide +kernel
theorem dX8_asLook_41 : decode cX8_asLook 41 = .ok (.imul, 1) := by decide +kernel
theorem dX8_asLook_42 : decode cX8_asLook 42 = .ok (.iadd, 1) := by decide +kernel
theorem dX8_asLook_43 : decode cX8_asLook 43 = .ok (.ireturn, 1) := by decide +kernel
theorem iX8_asLook_8 : ∀ w ∈ wsX80, w ∈ wsX8_asLook := fun w h => List.mem_cons_of_mem _ (List.mem_append_left _ (List.mem_append_left _ (List.mem_append_right _ h)))
theorem fX8_asLook_19 : FL mX8_asLook 19 8 1 := ⟨_, _, _, rfl, by decide, iX8_asLook_8, by decide +kernel⟩
theorem fX8_asLook_29 : FL mX8_asLook 29 8 3 := ⟨_, _, _, rfl, by decide, iX8_asLook_8, by decide +kernel⟩
theorem fX8_asLook_78 : FL mX8_asLook 78 8 12 := ⟨_, _, _, rfl, by decide, iX8_asLook_8, by decide +kernel⟩
theorem pX8_asLook_78 : FP mX8_asLook 78 8 12 .long false := ⟨_, _, _, tyX8, rfl, by decide, iX8_asLook_8, by decide +kernel, tyX8_ok, nmX8, rfl, rfl, fun z => absurd z (by decide)⟩
set_option maxRecDepth 20000 in
theorem ggX8_asLook_X7_of : GoodIn wsX8_asLook wsX7_of := goodIn_r _ [28, 29, 45] (by decide +kernel) (by decide +kernel)
set_option maxRecDepth 20000 in
theorem gX8_asLook_X7_of : GoodIn wsX8_asLook (wsV RX8 172 RX7 yX7_of wsX7_of) := goodIn_app (goodIn_of _ (by decide +kernel)) ggX8_asLook_X7_of
theorem wX8_asLook_172 : CWV mX8_asLook 172 mX7_of 1 := ⟨gX8_asLook_X7_of, ⟨_, rfl⟩, rfl, by decide +kernel, by decide +kernel, by decide +kernel⟩
set_option maxRecDepth 20000 in
theorem ggX8_asLook_X8_asWay : GoodIn wsX8_asLook wsX8_asWay := goodIn_r _ [9, 1, 4, 10, 11, 12, 13, 14, 15, 16, 17, 18, 19, 20, 21, 22, 23, 31, 32, 33, 34, 35, 36, 37, 38, 39, 40, 41, 42, 43, 44] (by decide +kernel) (by decide +kernel)
set_option maxRecDepth 20000 in
theorem gX8_asLook_X8_asWay : GoodIn wsX8_asLook (wsV RX8 264 RX8 yX8_asWay wsX8_asWay) := goodIn_app (goodIn_of _ (by decide +kernel)) ggX8_asLook_X8_asWay
theorem wX8_asLook_264 : CWV mX8_asLook 264 mX8_asWay 1 := ⟨gX8_asLook_X8_asWay, ⟨_, rfl⟩, rfl, by decide +kernel, by decide +kernel, by decide +kernel⟩
set_option maxRecDepth 20000 in
theorem ggX8_asLook_X4_coinsAbove : GoodIn wsX8_asLook wsX4_coinsAbove := goodIn_r _ [18, 19, 20, 21, 13, 22, 23, 44] (by decide +kernel) (by decide +kernel)
set_option maxRecDepth 20000 in
theorem gX8_asLook_X4_coinsAbove : GoodIn wsX8_asLook (wsV RX8 337 RX4 yX4_coinsAbove wsX4_coinsAbove) := goodIn_app (goodIn_of _ (by decide +kernel)) ggX8_asLook_X4_coinsAbove
theorem wX8_asLook_337 : CWV mX8_asLook 337 mX4_coinsAbove 2 := ⟨gX8_asLook_X4_coinsAbove, ⟨_, rfl⟩, rfl, by decide +kernel, by decide +kernel, by decide +kernel⟩
abbrev mX8_asSome : mT := (yX8_asSome, RX8, cX8_asSome, 2, (some .int), wsX8_asSome)
abbrev rX8_asSome : Room := { frames := 5, cells := 0, slots := 0, locals := 109 }
theorem dX8_asSome_0 : decode cX8_asSome 0 = .ok (.aload_n 0, 1) := by decide +kernel
theorem dX8_asSome_1 : decode cX8_asSome 1 = .ok (.dup, 1) := by decide +kernel
theorem dX8_asSome_2 : decode cX8_asSome 2 = .ok (.getfield 78, 3) := by decide +kernel
theorem dX8_asSome_5 : decode cX8_asSome 5 = .ok (.ldc2_w 340, 3) := by decide +kernel
theorem dX8_asSome_8 : decode cX8_asSome 8 = .ok (.ladd, 1) := by decide +kernel
theorem dX8_asSome_9 : decode cX8_asSome 9 = .ok (.putfield 78, 3) := by decide +kernel
theorem dX8_asSome_12 : decode cX8_asSome 12 = .ok (.aload_n 0, 1) := by decide +kernel
theorem dX8_asSome_13 : decode cX8_asSome 13 = .ok (.getfield 64, 3) := by decide +kernel
theorem dX8_asSome_16 : decode cX8_asSome 16 = .ok (.getfield 119, 3) := by decide +kernel
theorem dX8_asSome_19 : decode cX8_asSome 19 = .ok (.iload_n 1, 1) := by decide +kernel
theorem dX8_asSome_20 : decode cX8_asSome 20 = .ok (.iaload, 1) := by decide +kernel
theorem dX8_asSome_21 : decode cX8_asSome 21 = .ok (.aload_n 0, 1) := by decide +kernel
theorem dX8_asSome_22 : decode cX8_asSome 22 = .ok (.iload_n 1, 1) := by decide +kernel
theorem dX8_asSome_23 : decode cX8_asSome 23 = .ok (.invokevirtual 270, 3) := by decide +kernel
theorem dX8_asSome_26 : decode cX8_asSome 26 = .ok (.imul, 1) := by decide +kernel
theorem dX8_asSome_27 : decode cX8_asSome 27 = .ok (.bipush 10, 2) := by decide +kernel
theorem dX8_asSome_29 : decode cX8_asSome 29 = .ok (.idiv, 1) := by decide +kernel
theorem dX8_asSome_30 : decode cX8_asSome 30 = .ok (.ireturn, 1) := by decide +kernel
theorem iX8_asSome_8 : ∀ w ∈ wsX80, w ∈ wsX8_asSome := fun w h => List.mem_cons_of_mem _ (List.mem_append_left _ (List.mem_append_left _ (List.mem_append_left _ (List.mem_append_right _ h))))
theorem fX8_asSome_64 : FL mX8_asSome 64 8 8 := ⟨_, _, _, rfl, by decide, iX8_asSome_8, by decide +kernel⟩
theorem fX8_asSome_78 : FL mX8_asSome 78 8 12 := ⟨_, _, _, rfl, by decide, iX8_asSome_8, by decide +kernel⟩
theorem pX8_asSome_78 : FP mX8_asSome 78 8 12 .long false := ⟨_, _, _, tyX8, rfl, by decide, iX8_asSome_8, by decide +kernel, tyX8_ok, nmX8, rfl, rfl, fun z => absurd z (by decide)⟩
theorem iX8_asSome_6 : ∀ w ∈ wsX60, w ∈ wsX8_asSome := fun w h => List.mem_cons_of_mem _ (List.mem_append_left _ (List.mem_append_left _ (List.mem_append_right _ h)))
theorem fX8_asSome_119 : FL mX8_asSome 119 6 1 := ⟨_, _, _, rfl, by decide, iX8_asSome_6, by decide +kernel⟩
set_option maxRecDepth 20000 in
theorem ggX8_asSome_X8_asLook : GoodIn wsX8_asSome wsX8_asLook := goodIn_r _ [9, 1, 10, 11, 12, 13, 14, 15, 8, 16, 17, 18, 19, 20, 21, 22, 23, 24, 25, 26, 27, 28, 29, 30, 31, 32, 33, 34, 35, 36, 37, 38, 39, 40, 41, 42, 43, 44, 45, 46, 47, 48, 49, 50, 56, 57] (by decide +kernel) (by decide +kernel)
set_option maxRecDepth 20000 in
theorem gX8_asSome_X8_asLook : GoodIn wsX8_asSome (wsV RX8 270 RX8 yX8_asLook wsX8_asLook) := goodIn_app (goodIn_of _ (by decide +kernel)) ggX8_asSome_X8_asLook
theorem wX8_asSome_270 : CWV mX8_asSome 270 mX8_asLook 1 := ⟨gX8_asSome_X8_asLook, ⟨_, rfl⟩, rfl, by decide +kernel, by decide +kernel, by decide +kernel⟩
abbrev mX8_asPay : mT := (yX8_asPay, RX8, cX8_asPay, 2, (some .int), wsX8_asPay)
abbrev rX8_asPay : Room := { frames := 4, cells := 0, slots := 0, locals := 88 }
theorem dX8_asPay_0 : decode cX8_asPay 0 = .ok (.aload_n 0, 1) := by decide +kernel
theorem dX8_asPay_1 : decode cX8_asPay 1 = .ok (.dup, 1) := by decide +kernel
theorem dX8_asPay_2 : decode cX8_asPay 2 = .ok (.getfield 78, 3) := by decide +kernel
theorem dX8_asPay_5 : decode cX8_asPay 5 = .ok (.ldc2_w 342, 3) := by decide +kernel
theorem dX8_asPay_8 : decode cX8_asPay 8 = .ok (.ladd, 1) := by decide +kernel
theorem dX8_asPay_9 : decode cX8_asPay 9 = .ok (.putfield 78, 3) := by decide +kernel
theorem dX8_asPay_12 : decode cX8_asPay 12 = .ok (.aload_n 0, 1) := by decide +kernel
theorem dX8_asPay_13 : decode cX8_asPay 13 = .ok (.iload_n 1, 1) := by decide +kernel
theorem dX8_asPay_14 : decode cX8_asPay 14 = .ok (.invokevirtual 264, 3) := by decide +kernel
theorem dX8_asPay_17 : decode cX8_asPay 17 = .ok (.aload_n 0, 1) := by decide +kernel
theorem dX8_asPay_18 : decode cX8_asPay 18 = .ok (.getfield 19, 3) := by decide +kernel
theorem dX8_asPay_21 : decode cX8_asPay 21 = .ok (.iload_n 1, 1) := by decide +kernel
theorem dX8_asPay_22 : decode cX8_asPay 22 = .ok (.iconst 0, 1) := by decide +kernel
theorem dX8_asPay_23 : decode cX8_asPay 23 = .ok (.invokevirtual 135, 3) := by decide +kernel
theorem dX8_asPay_26 : decode cX8_asPay 26 = .ok (.isub, 1) := by decide +kernel
theorem dX8_asPay_27 : decode cX8_asPay 27 = .ok (.ireturn, 1) := by decide +kernel
theorem iX8_asPay_8 : ∀ w ∈ wsX80, w ∈ wsX8_asPay := fun w h => List.mem_cons_of_mem _ (List.mem_append_left _ (List.mem_append_right _ h))
theorem fX8_asPay_19 : FL mX8_asPay 19 8 1 := ⟨_, _, _, rfl, by decide, iX8_asPay_8, by decide +kernel⟩
theorem fX8_asPay_78 : FL mX8_asPay 78 8 12 := ⟨_, _, _, rfl, by decide, iX8_asPay_8, by decide +kernel⟩
theorem pX8_asPay_78 : FP mX8_asPay 78 8 12 .long false := ⟨_, _, _, tyX8, rfl, by decide, iX8_asPay_8, by decide +kernel, tyX8_ok, nmX8, rfl, rfl, fun z => absurd z (by decide)⟩
set_option maxRecDepth 20000 in
theorem ggX8_asPay_X4_held : GoodIn wsX8_asPay wsX4_held := goodIn_r _ [21, 22, 37] (by decide +kernel) (by decide +kernel)
set_option maxRecDepth 20000 in
theorem gX8_asPay_X4_held : GoodIn wsX8_asPay (wsV RX8 135 RX4 yX4_held wsX4_held) := goodIn_app (goodIn_of _ (by decide +kernel)) ggX8_asPay_X4_held
theorem wX8_asPay_135 : CWV mX8_asPay 135 mX4_held 2 := ⟨gX8_asPay_X4_held, ⟨_, rfl⟩, rfl, by decide +kernel, by decide +kernel, by decide +kernel⟩
set_option maxRecDepth 20000 in
theorem ggX8_asPay_X8_asWay : GoodIn wsX8_asPay wsX8_asWay := goodIn_r _ [8, 1, 3, 9, 10, 11, 12, 13, 14, 15, 16, 17, 18, 19, 20, 21, 22, 24, 25, 26, 27, 28, 29, 30, 31, 32, 33, 34, 35, 36, 37] (by decide +kernel) (by decide +kernel)
set_option maxRecDepth 20000 in
theorem gX8_asPay_X8_asWay : GoodIn wsX8_asPay (wsV RX8 264 RX8 yX8_asWay wsX8_asWay) := goodIn_app (goodIn_of _ (by decide +kernel)) ggX8_asPay_X8_asWay
theorem wX8_asPay_264 : CWV mX8_asPay 264 mX8_asWay 1 := ⟨gX8_asPay_X8_asWay, ⟨_, rfl⟩, rfl, by decide +kernel, by decide +kernel, by decide +kernel⟩
abbrev mX8_asKeep : mT := (yX8_asKeep, RX8, cX8_asKeep, 2, (some .int), wsX8_asKeep)
abbrev rX8_asKeep : Room := { frames := 5, cells := 0, slots := 0, locals := 109 }
theorem dX8_asKeep_0 : decode cX8_asKeep 0 = .ok (.aload_n 0, 1) := by decide +kernel
theorem dX8_asKeep_1 : decode cX8_asKeep 1 = .ok (.dup, 1) := by decide +kernel
theorem dX8_asKeep_2 : decode cX8_asKeep 2 = .ok (.getfield 78, 3) := by decide +kernel
theorem dX8_asKeep_5 : decode cX8_asKeep 5 = .ok (.ldc2_w 344, 3) := by decide +kernel
theorem dX8_asKeep_8 : decode cX8_asKeep 8 = .ok (.ladd, 1) := by decide +kernel
theorem dX8_asKeep_9 : decode cX8_asKeep 9 = .ok (.putfield 78, 3) := by decide +kernel
theorem dX8_asKeep_12 : decode cX8_asKeep 12 = .ok (.iconst 2, 1) := by decide +kernel
theorem dX8_asKeep_13 : decode cX8_asKeep 13 = .ok (.aload_n 0, 1) := by decide +kernel
theorem dX8_asKeep_14 : decode cX8_asKeep 14 = .ok (.iload_n 1, 1) := by decide +kernel
theorem dX8_asKeep_15 : decode cX8_asKeep 15 = .ok (.invokevirtual 276, 3) := by decide +kernel
theorem dX8_asKeep_18 : decode cX8_asKeep 18 = .ok (.imul, 1) := by decide +kernel
theorem dX8_asKeep_19 : decode cX8_asKeep 19 = .ok (.ireturn, 1) := by decide +kernel
theorem iX8_asKeep_8 : ∀ w ∈ wsX80, w ∈ wsX8_asKeep := fun w h => List.mem_cons_of_mem _ (List.mem_append_left _ (List.mem_append_right _ h))
theorem fX8_asKeep_78 : FL mX8_asKeep 78 8 12 := ⟨_, _, _, rfl, by decide, iX8_asKeep_8, by decide +kernel⟩
theorem pX8_asKeep_78 : FP mX8_asKeep 78 8 12 .long false := ⟨_, _, _, tyX8, rfl, by decide, iX8_asKeep_8, by decide +kernel, tyX8_ok, nmX8, rfl, rfl, fun z => absurd z (by decide)⟩
set_option maxRecDepth 20000 in
theorem ggX8_asKeep_X8_asPay : GoodIn wsX8_asKeep wsX8_asPay := goodIn_r _ [7, 1, 8, 9, 10, 11, 12, 6, 13, 14, 15, 16, 17, 18, 19, 20, 21, 22, 23, 24, 25, 26, 27, 28, 29, 30, 31, 32, 33, 34, 35, 36, 37, 38, 39, 40, 41, 42] (by decide +kernel) (by decide +kernel)
set_option maxRecDepth 20000 in
theorem gX8_asKeep_X8_asPay : GoodIn wsX8_asKeep (wsV RX8 276 RX8 yX8_asPay wsX8_asPay) := goodIn_app (goodIn_of _ (by decide +kernel)) ggX8_asKeep_X8_asPay
theorem wX8_asKeep_276 : CWV mX8_asKeep 276 mX8_asPay 1 := ⟨gX8_asKeep_X8_asPay, ⟨_, rfl⟩, rfl, by decide +kernel, by decide +kernel, by decide +kernel⟩
abbrev mX8_asClip : mT := (yX8_asClip, RX8, cX8_asClip, 2, (some .int), wsX8_asClip)
abbrev rX8_asClip : Room := { frames := 4, cells := 0, slots := 0, locals := 88 }
theorem dX8_asClip_0 : decode cX8_asClip 0 = .ok (.aload_n 0, 1) := by decide +kernel
theorem dX8_asClip_1 : decode cX8_asClip 1 = .ok (.dup, 1) := by decide +kernel
theorem dX8_asClip_2 : decode cX8_asClip 2 = .ok (.getfield 78, 3) := by decide +kernel
theorem dX8_asClip_5 : decode cX8_asClip 5 = .ok (.ldc2_w 346, 3) := by decide +kernel
theorem dX8_asClip_8 : decode cX8_asClip 8 = .ok (.ladd, 1) := by decide +kernel
theorem dX8_asClip_9 : decode cX8_asClip 9 = .ok (.putfield 78, 3) := by decide +kernel
theorem dX8_asClip_12 : decode cX8_asClip 12 = .ok (.aload_n 0, 1) := by decide +kernel
theorem dX8_asClip_13 : decode cX8_asClip 13 = .ok (.iload_n 1, 1) := by decide +kernel
theorem dX8_asClip_14 : decode cX8_asClip 14 = .ok (.invokevirtual 264, 3) := by decide +kernel
theorem dX8_asClip_17 : decode cX8_asClip 17 = .ok (.aload_n 0, 1) := by decide +kernel
theorem dX8_asClip_18 : decode cX8_asClip 18 = .ok (.getfield 64, 3) := by decide +kernel
theorem dX8_asClip_21 : decode cX8_asClip 21 = .ok (.getfield 125, 3) := by decide +kernel
theorem dX8_asClip_24 : decode cX8_asClip 24 = .ok (.iload_n 1, 1) := by decide +kernel
theorem dX8_asClip_25 : decode cX8_asClip 25 = .ok (.iaload, 1) := by decide +kernel
theorem dX8_asClip_26 : decode cX8_asClip 26 = .ok (.iadd, 1) := by decide +kernel
theorem dX8_asClip_27 : decode cX8_asClip 27 = .ok (.ireturn, 1) := by decide +kernel
theorem iX8_asClip_8 : ∀ w ∈ wsX80, w ∈ wsX8_asClip := fun w h => List.mem_cons_of_mem _ (List.mem_append_left _ (List.mem_append_left _ (List.mem_append_right _ h)))
theorem fX8_asClip_64 : FL mX8_asClip 64 8 8 := ⟨_, _, _, rfl, by decide, iX8_asClip_8, by decide +kernel⟩
theorem fX8_asClip_78 : FL mX8_asClip 78 8 12 := ⟨_, _, _, rfl, by decide, iX8_asClip_8, by decide +kernel⟩
theorem pX8_asClip_78 : FP mX8_asClip 78 8 12 .long false := ⟨_, _, _, tyX8, rfl, by decide, iX8_asClip_8, by decide +kernel, tyX8_ok, nmX8, rfl, rfl, fun z => absurd z (by decide)⟩
theorem iX8_asClip_6 : ∀ w ∈ wsX60, w ∈ wsX8_asClip := fun w h => List.mem_cons_of_mem _ (List.mem_append_left _ (List.mem_append_right _ h))
theorem fX8_asClip_125 : FL mX8_asClip 125 6 3 := ⟨_, _, _, rfl, by decide, iX8_asClip_6, by decide +kernel⟩
set_option maxRecDepth 20000 in
theorem ggX8_asClip_X8_asWay : GoodIn wsX8_asClip wsX8_asWay := goodIn_r _ [9, 1, 10, 11, 12, 13, 14, 15, 16, 17, 18, 19, 20, 21, 22, 23, 24, 25, 26, 27, 28, 29, 30, 31, 32, 33, 34, 35, 36, 37, 43] (by decide +kernel) (by decide +kernel)
set_option maxRecDepth 20000 in
theorem gX8_asClip_X8_asWay : GoodIn wsX8_asClip (wsV RX8 264 RX8 yX8_asWay wsX8_asWay) := goodIn_app (goodIn_of _ (by decide +kernel)) ggX8_asClip_X8_asWay
theorem wX8_asClip_264 : CWV mX8_asClip 264 mX8_asWay 1 := ⟨gX8_asClip_X8_asWay, ⟨_, rfl⟩, rfl, by decide +kernel, by decide +kernel, by decide +kernel⟩
/-- the object: text, purses, scratch, tunes, latest, day, laws, images, town, draft, lot, year, trace -/
abbrev xo (T P S U M D L I tw dr : Nat) (lot yr : Int32) (tc : Int64) : va_E := ob 8 [.ref T, .ref P, .ref S, .ref U, .ref M, .ref D, .ref L, .ref I, .ref tw, .ref dr, .int lot, .int yr, .long tc]
abbrev twn (aw ax ay ao n : Nat) : va_E := ob 6 [.ref aw, .ref ax, .ref ay, .ref ao, .int (nI n)]
section Rules5
variable {Γ : gT} {l : Launch} {μ : mT} {R : Room} {Z : zT} {kc ks pc : Nat} {ls : List (Nat × Value)} {st : List Value} {as : List Nat} {h : aH}
theorem q_mabsL {index : Nat} {x : Int64} (hd : decode μ.2.2.1 pc = .ok (.invokestatic index, 3)) (hw : ∀ w ∈ ([.methodLink μ.2.1 index Lib.MathLoose.abs_long.x, .static Lib.MathLoose.abs_long.x, .initialized "java/lang/Math", .code Lib.MathLoose.abs_long.x Lib.MathLoose.abs_long.code 2 (some .long)] : List Cond), w ∈ μ.2.2.2.2.2) (hfr : 1 ≤ R.frames) (hlo : (st.map fun v => v.category).sum + 13 ≤ R.locals) (hkc : kc ≤ R.cells) (hks : ks ≤ R.slots) (k : V Γ l μ R Z kc ks (pc + 3) ls (.long (if 0 < x then x else -x) :: st) as h) : V Γ l μ R Z kc ks pc ls (.long x :: st) as h := by
  intro p e s m args below meth c H locs lsA C ho hP hS hl
  have hts := C.2.2.2.2.2.1
  exact va_mabs_long C.1 C.2.1 (C.2.2.2.1.trans hl.1.symm) C.2.2.2.2.1 (hts _ (hw _ (by simp))) (hts _ (hw _ (by simp))) (hts _ (hw _ (by simp))) (hts _ (hw _ (by simp))) hfr hlo hkc hks hd (k p e s m args below meth c H locs lsA C ho hP hS hl)
theorem q_mmaxL {index : Nat} {x y : Int64} (hd : decode μ.2.2.1 pc = .ok (.invokestatic index, 3)) (hw : ∀ w ∈ ([.methodLink μ.2.1 index Lib.MathLoose.max_long.x, .static Lib.MathLoose.max_long.x, .initialized "java/lang/Math", .code Lib.MathLoose.max_long.x Lib.MathLoose.max_long.code 4 (some .long)] : List Cond), w ∈ μ.2.2.2.2.2) (hfr : 1 ≤ R.frames) (hlo : (st.map fun v => v.category).sum + 15 ≤ R.locals) (hkc : kc ≤ R.cells) (hks : ks ≤ R.slots) (k : V Γ l μ R Z kc ks (pc + 3) ls (.long (if y < x then x else y) :: st) as h) : V Γ l μ R Z kc ks pc ls (.long y :: .long x :: st) as h := by
  intro p e s m args below meth c H locs lsA C ho hP hS hl
  have hts := C.2.2.2.2.2.1
  exact va_mmax_long C.1 C.2.1 (C.2.2.2.1.trans hl.1.symm) C.2.2.2.2.1 (hts _ (hw _ (by simp))) (hts _ (hw _ (by simp))) (hts _ (hw _ (by simp))) (hts _ (hw _ (by simp))) hfr hlo hkc hks hd (k p e s m args below meth c H locs lsA C ho hP hS hl)
end Rules5
def isP (n : Nat) (p : Int32) : Bool := decide (¬ p < 0) && decide (¬ nI n ≤ p)
def isW (p : Int32) : Bool := decide (¬ p < 0) && decide (¬ 10 ≤ p)
def isIm (p : Int32) : Bool := decide (¬ p < 0) && decide (p ≤ 1)
def isUL (p : Int32) : Bool := decide (p = 0) || decide (p = 1)
def dyR (all n k : Int32) : Int32 := if n < 1 ∨ 30 < n ∨ k < 0 ∨ n < k then -1 else if n ≤ all then 0 else -2
/-- Euclid from a, b ends within d steps -/
def stp : Nat → Nat → Nat → Bool
  | _, _, 0 => true
  | 0, _, _ + 1 => false
  | d + 1, a, b + 1 => stp d (b + 1) (a % (b + 1))
def lotN (x : Int32) : Int32 := x * 1103515245 + 12345
def drw (x : Int32) : Nat := x.toBitVec.toNat / 65536
theorem us16 (x : Int32) : us x 16 = nI (drw x) := by
  have h1 := pk_ushr x 16 16 (by decide +kernel)
  unfold us drw
  have h2 : ((x.toUInt32 >>> ((16 : Int32).toUInt32 &&& Int32.toUInt32 31)).toInt32).toBitVec.toNat = (nI (x.toBitVec.toNat / 65536)).toBitVec.toNat := by
    rw [h1, pk_tn (by have := x.toBitVec.isLt; omega)]
  exact Int32.toBitVec_inj.mp (BitVec.eq_of_toNat_eq h2)
theorem drw_lt (x : Int32) : drw x < 65536 := by
  unfold drw
  have := x.toBitVec.isLt
  omega
/-- the first weight from w on (d of them) that a purse has -/
def fstW (f : Nat → Int32) (p : Nat) : Nat → Nat → Int32
  | 0, _ => -9
  | d + 1, w => if f (p * 10 + w) ≤ 0 then fstW f p d (w + 1) else nI w
/-- the last weight below k that a purse has -/
def lstW (f : Nat → Int32) (p : Nat) : Nat → Int32
  | 0 => -9
  | w + 1 => if f (p * 10 + w) ≤ 0 then lstW f p w else nI w
/-- the weight that p pays: most, whether heavy -/
def wtp (f : Nat → Int32) (p most : Nat) (pay : Int32) : Int32 := if pay = 1 then fstW f p (most + 1) 0 else lstW f p (most + 1)
def asI (u : Nat → Int32) (w : Nat) : Int32 := if u 0 < nI w then 10 - nI w else 10
def p10 : Nat → Int64
  | 0 => 1
  | k + 1 => p10 k * 10
def clS (u : Nat → Int32) (w : Nat) (nw : Int64) : Int64 := (10 - (u 3).toInt64) * ((u 4).toInt64 * p10 (8 - w) + nw) - (u 3).toInt64 * (u 2).toInt64 * p10 (8 - w)
/-- the worth of weight 9 - k, scaled -/
def wrW (u : Nat → Int32) : Nat → Int64
  | 0 => (asI u 9).toInt64
  | k + 1 => if clS u (8 - k) (wrW u k) < (asI u (8 - k)).toInt64 * p10 (k + 1) then (asI u (8 - k)).toInt64 * p10 (k + 1) else clS u (8 - k) (wrW u k)
/-- the weight at which it is no longer clipped, from w on (d of them below 9) -/
def unS (u : Nat → Int32) : Nat → Nat → Int32
  | 0, _ => 9
  | d + 1, w => if (asI u w).toInt64 * p10 (9 - w) < clS u w (wrW u (8 - w)) then unS u d (w + 1) else nI w
/-- held and melted of the first k weights -/
def hmS (f u : Nat → Int32) (p : Nat) (x : Int32) : Nat → Int32 × Int32
  | 0 => (0, 0)
  | k + 1 => if nI k < x then ((hmS f u p x k).1 + f (p * 10 + k) * asI u k, (hmS f u p x k).2) else ((hmS f u p x k).1, (hmS f u p x k).2 + f (p * 10 + k) * (10 - nI k))
def hmF (f u : Nat → Int32) (p : Nat) (x c : Int32) : Int32 := (hmS f u p x 10).1 + (hmS f u p x 10).2 * (100 - c) / 1000 * 10
theorem m1p1 (x : Int32) : x + (-1) + 1 = x := by
  rw [Int32.add_assoc, show (-1 : Int32) + 1 = 0 from by decide, Int32.add_zero]
theorem lgc0 {x y : Int64} (h : lg_cmp x y = 0) : x = y := by
  unfold lg_cmp at h
  split at h
  · exact absurd h (by decide)
  · split at h
    · assumption
    · exact absurd h (by decide)
section
variable {Γ : gT} {l : Launch} {as : List Nat} {h : aH} {X T P S U M D L I tw dr : Nat} {lot yr : Int32} {tc : Int64} {aw ax ay ao n pr ur : Nat} {f u w x y o : Nat → Int32}
theorem c_isPerson {p : Int32} (hX : hat as h X (xo T P S U M D L I tw dr lot yr tc)) (ht : hat as h tw (twn aw ax ay ao n)) : Det Γ l mX8_isPerson rX8_isPerson [.ref X, .int p] as h (some (.int (bI (isP n p)))) h := by
  refine Con.of (by decide +kernel) rfl rfl (Nat.le_of_ble_eq_true rfl) ?_
  refine q_iload_n dX8_isPerson_0 rfl rfl ?_
  refine q_if_lt 19 dX8_isPerson_1 (by decide) (fun cA => ?_) (fun cA => ?_)
  · rw [show isP n p = false by
        unfold isP
        rw [Bool.and_eq_false_iff, decide_eq_false_iff_not, decide_eq_false_iff_not]
        first | exact Or.inr (fun z => z cB) | exact Or.inl (fun z => z cA)]
    refine q_iconst (v := 0) dX8_isPerson_19 rfl ?_
    exact q_zret dX8_isPerson_20 rfl (rfl) (Nat.zero_le _) (Nat.zero_le _) (⟨rfl, rfl, rfl⟩)
  · refine q_iload_n dX8_isPerson_4 rfl rfl ?_
    refine q_aload_n dX8_isPerson_5 rfl rfl ?_
    refine q_get dX8_isPerson_6 fX8_isPerson_64 (hX) rfl ?_
    refine q_get dX8_isPerson_9 fX8_isPerson_109 (ht) rfl ?_
    refine q_icmp_ge 19 dX8_isPerson_12 (by decide) (fun cB => ?_) (fun cB => ?_)
    · rw [show isP n p = false by
          unfold isP
          rw [Bool.and_eq_false_iff, decide_eq_false_iff_not, decide_eq_false_iff_not]
          first | exact Or.inr (fun z => z cB) | exact Or.inl (fun z => z cA)]
      refine q_iconst (v := 0) dX8_isPerson_19 rfl ?_
      exact q_zret dX8_isPerson_20 rfl (rfl) (Nat.zero_le _) (Nat.zero_le _) (⟨rfl, rfl, rfl⟩)
    · rw [show isP n p = true by
          unfold isP
          rw [Bool.and_eq_true, decide_eq_true_eq, decide_eq_true_eq]
          exact ⟨cA, cB⟩]
      refine q_iconst (v := 1) dX8_isPerson_15 rfl ?_
      refine q_goto 20 dX8_isPerson_16 (by decide) ?_
      exact q_zret dX8_isPerson_20 rfl (rfl) (Nat.zero_le _) (Nat.zero_le _) (⟨rfl, rfl, rfl⟩)
theorem c_isWeight {p : Int32} : Det Γ l mX8_isWeight rX8_isWeight [.int p] as h (some (.int (bI (isW p)))) h := by
  refine Con.of (by decide +kernel) rfl rfl (Nat.le_of_ble_eq_true rfl) ?_
  refine q_iload_n dX8_isWeight_0 rfl rfl ?_
  refine q_if_lt 14 dX8_isWeight_1 (by decide) (fun cA => ?_) (fun cA => ?_)
  · rw [show isW p = false by
        unfold isW
        rw [Bool.and_eq_false_iff, decide_eq_false_iff_not, decide_eq_false_iff_not]
        first | exact Or.inr (fun z => z cB) | exact Or.inl (fun z => z cA)]
    refine q_iconst (v := 0) dX8_isWeight_14 rfl ?_
    exact q_zret dX8_isWeight_15 rfl (rfl) (Nat.zero_le _) (Nat.zero_le _) (⟨rfl, rfl, rfl⟩)
  · refine q_iload_n dX8_isWeight_4 rfl rfl ?_
    refine q_bipush (v := 10) dX8_isWeight_5 rfl ?_
    refine q_icmp_ge 14 dX8_isWeight_7 (by decide) (fun cB => ?_) (fun cB => ?_)
    · rw [show isW p = false by
          unfold isW
          rw [Bool.and_eq_false_iff, decide_eq_false_iff_not, decide_eq_false_iff_not]
          first | exact Or.inr (fun z => z cB) | exact Or.inl (fun z => z cA)]
      refine q_iconst (v := 0) dX8_isWeight_14 rfl ?_
      exact q_zret dX8_isWeight_15 rfl (rfl) (Nat.zero_le _) (Nat.zero_le _) (⟨rfl, rfl, rfl⟩)
    · rw [show isW p = true by
          unfold isW
          rw [Bool.and_eq_true, decide_eq_true_eq, decide_eq_true_eq]
          exact ⟨cA, cB⟩]
      refine q_iconst (v := 1) dX8_isWeight_10 rfl ?_
      refine q_goto 15 dX8_isWeight_11 (by decide) ?_
      exact q_zret dX8_isWeight_15 rfl (rfl) (Nat.zero_le _) (Nat.zero_le _) (⟨rfl, rfl, rfl⟩)
theorem c_isImage {p : Int32} : Det Γ l mX8_isImage rX8_isImage [.int p] as h (some (.int (bI (isIm p)))) h := by
  refine Con.of (by decide +kernel) rfl rfl (Nat.le_of_ble_eq_true rfl) ?_
  refine q_iload_n dX8_isImage_0 rfl rfl ?_
  refine q_if_lt 13 dX8_isImage_1 (by decide) (fun cA => ?_) (fun cA => ?_)
  · rw [show isIm p = false by
        unfold isIm
        rw [Bool.and_eq_false_iff, decide_eq_false_iff_not, decide_eq_false_iff_not]
        first | exact Or.inr (Int32.not_le.mpr cB) | exact Or.inl (fun z => z cA)]
    refine q_iconst (v := 0) dX8_isImage_13 rfl ?_
    exact q_zret dX8_isImage_14 rfl (rfl) (Nat.zero_le _) (Nat.zero_le _) (⟨rfl, rfl, rfl⟩)
  · refine q_iload_n dX8_isImage_4 rfl rfl ?_
    refine q_iconst (v := 1) dX8_isImage_5 rfl ?_
    refine q_icmp_gt 13 dX8_isImage_6 (by decide) (fun cB => ?_) (fun cB => ?_)
    · rw [show isIm p = false by
          unfold isIm
          rw [Bool.and_eq_false_iff, decide_eq_false_iff_not, decide_eq_false_iff_not]
          first | exact Or.inr (Int32.not_le.mpr cB) | exact Or.inl (fun z => z cA)]
      refine q_iconst (v := 0) dX8_isImage_13 rfl ?_
      exact q_zret dX8_isImage_14 rfl (rfl) (Nat.zero_le _) (Nat.zero_le _) (⟨rfl, rfl, rfl⟩)
    · rw [show isIm p = true by
          unfold isIm
          rw [Bool.and_eq_true, decide_eq_true_eq, decide_eq_true_eq]
          exact ⟨cA, Int32.not_lt.mp cB⟩]
      refine q_iconst (v := 1) dX8_isImage_9 rfl ?_
      refine q_goto 14 dX8_isImage_10 (by decide) ?_
      exact q_zret dX8_isImage_14 rfl (rfl) (Nat.zero_le _) (Nat.zero_le _) (⟨rfl, rfl, rfl⟩)
theorem c_isUL {p : Int32} : Det Γ l mX8_isUpperOrLower rX8_isUpperOrLower [.int p] as h (some (.int (bI (isUL p)))) h := by
  refine Con.of (by decide +kernel) rfl rfl (Nat.le_of_ble_eq_true rfl) ?_
  refine q_iload_n dX8_isUpperOrLower_0 rfl rfl ?_
  refine q_if_eq 9 dX8_isUpperOrLower_1 (by decide) (fun cA => ?_) (fun cA => ?_)
  · rw [show isUL p = true by
        unfold isUL
        rw [Bool.or_eq_true, decide_eq_true_eq, decide_eq_true_eq]
        first | exact Or.inr cB | exact Or.inl cA]
    refine q_iconst (v := 1) dX8_isUpperOrLower_9 rfl ?_
    refine q_goto 14 dX8_isUpperOrLower_10 (by decide) ?_
    exact q_zret dX8_isUpperOrLower_14 rfl (rfl) (Nat.zero_le _) (Nat.zero_le _) (⟨rfl, rfl, rfl⟩)
  · refine q_iload_n dX8_isUpperOrLower_4 rfl rfl ?_
    refine q_iconst (v := 1) dX8_isUpperOrLower_5 rfl ?_
    refine q_icmp_ne 13 dX8_isUpperOrLower_6 (by decide) (fun cB => ?_) (fun cB => ?_)
    · rw [show isUL p = false by
          unfold isUL
          rw [Bool.or_eq_false_iff, decide_eq_false_iff_not, decide_eq_false_iff_not]
          exact ⟨cA, cB⟩]
      refine q_iconst (v := 0) dX8_isUpperOrLower_13 rfl ?_
      exact q_zret dX8_isUpperOrLower_14 rfl (rfl) (Nat.zero_le _) (Nat.zero_le _) (⟨rfl, rfl, rfl⟩)
    · rw [show isUL p = true by
          unfold isUL
          rw [Bool.or_eq_true, decide_eq_true_eq, decide_eq_true_eq]
          first | exact Or.inr cB | exact Or.inl cA]
      refine q_iconst (v := 1) dX8_isUpperOrLower_9 rfl ?_
      refine q_goto 14 dX8_isUpperOrLower_10 (by decide) ?_
      exact q_zret dX8_isUpperOrLower_14 rfl (rfl) (Nat.zero_le _) (Nat.zero_le _) (⟨rfl, rfl, rfl⟩)
theorem c_divides {d m : Nat} (hd0 : 0 < d) (hd1 : d < 2 ^ 31) (hm : m < 2 ^ 31) : Det Γ l mX8_divides rX8_divides [.int (nI d), .int (nI m)] as h (some (.int (bI (decide (m % d = 0))))) h := by
  refine Con.of (by decide +kernel) rfl rfl (Nat.le_of_ble_eq_true rfl) ?_
  refine q_iload_n dX8_divides_0 rfl rfl ?_
  refine q_if_le 14 dX8_divides_1 (by decide) (fun z => absurd z (nI_nle hd0 hd1)) (fun _ => ?_)
  refine q_iload_n dX8_divides_4 rfl rfl ?_
  refine q_iload_n dX8_divides_5 rfl rfl ?_
  refine q_irem dX8_divides_6 (nI_ne0 hd0 hd1) ?_
  rw [pk_rem hm hd0 hd1]
  refine q_if_ne 14 dX8_divides_7 (by decide) (fun cB => ?_) (fun cB => ?_)
  · rw [decide_eq_false (fun z => cB (by rw [z]; rfl))]
    refine q_iconst (v := 0) dX8_divides_14 rfl ?_
    exact q_zret dX8_divides_15 rfl (rfl) (Nat.zero_le _) (Nat.zero_le _) (⟨rfl, rfl, rfl⟩)
  · rw [decide_eq_true ((nI_eq (b := 0) (Nat.lt_of_le_of_lt (Nat.mod_le _ _) hm) (by omega)).mp cB)]
    refine q_iconst (v := 1) dX8_divides_10 rfl ?_
    refine q_goto 15 dX8_divides_11 (by decide) ?_
    exact q_zret dX8_divides_15 rfl (rfl) (Nat.zero_le _) (Nat.zero_le _) (⟨rfl, rfl, rfl⟩)
theorem c_dayRefusal {p k : Int32} (hX : hat as h X (xo T P S U M D L I tw dr lot yr tc)) (hP : hat as h P (ob 4 [.ref pr])) (hpr : hat as h pr (aI Γ 80 f)) : Det Γ l mX8_dayRefusal rX8_dayRefusal [.ref X, .int p, .int k] as h (some (.int (dyR (pAll f) p k))) h := by
  refine Con.of (by decide +kernel) rfl rfl (Nat.le_of_ble_eq_true rfl) ?_
  refine q_iload_n dX8_dayRefusal_0 rfl rfl ?_
  refine q_iconst (v := 1) dX8_dayRefusal_1 rfl ?_
  refine q_icmp_lt 20 dX8_dayRefusal_2 (by decide) (fun cA => ?_) (fun cA => ?_)
  · rw [show dyR (pAll f) p k = -1 by
        unfold dyR
        refine if_pos ?_
        first | exact Or.inr (Or.inr (Or.inr (Int32.not_le.mp cD))) | exact Or.inr (Or.inr (Or.inl cC)) | exact Or.inr (Or.inl cB) | exact Or.inl cA]
    refine q_iconst (v := (-1)) dX8_dayRefusal_20 rfl ?_
    exact q_iret dX8_dayRefusal_21 rfl (Nat.zero_le _) (Nat.zero_le _) (⟨rfl, rfl, rfl⟩)
  · refine q_iload_n dX8_dayRefusal_5 rfl rfl ?_
    refine q_bipush (v := 30) dX8_dayRefusal_6 rfl ?_
    refine q_icmp_gt 20 dX8_dayRefusal_8 (by decide) (fun cB => ?_) (fun cB => ?_)
    · rw [show dyR (pAll f) p k = -1 by
          unfold dyR
          refine if_pos ?_
          first | exact Or.inr (Or.inr (Or.inr (Int32.not_le.mp cD))) | exact Or.inr (Or.inr (Or.inl cC)) | exact Or.inr (Or.inl cB) | exact Or.inl cA]
      refine q_iconst (v := (-1)) dX8_dayRefusal_20 rfl ?_
      exact q_iret dX8_dayRefusal_21 rfl (Nat.zero_le _) (Nat.zero_le _) (⟨rfl, rfl, rfl⟩)
    · refine q_iload_n dX8_dayRefusal_11 rfl rfl ?_
      refine q_if_lt 20 dX8_dayRefusal_12 (by decide) (fun cC => ?_) (fun cC => ?_)
      · rw [show dyR (pAll f) p k = -1 by
            unfold dyR
            refine if_pos ?_
            first | exact Or.inr (Or.inr (Or.inr (Int32.not_le.mp cD))) | exact Or.inr (Or.inr (Or.inl cC)) | exact Or.inr (Or.inl cB) | exact Or.inl cA]
        refine q_iconst (v := (-1)) dX8_dayRefusal_20 rfl ?_
        exact q_iret dX8_dayRefusal_21 rfl (Nat.zero_le _) (Nat.zero_le _) (⟨rfl, rfl, rfl⟩)
      · refine q_iload_n dX8_dayRefusal_15 rfl rfl ?_
        refine q_iload_n dX8_dayRefusal_16 rfl rfl ?_
        refine q_icmp_le 22 dX8_dayRefusal_17 (by decide) (fun cD => ?_) (fun cD => ?_)
        · have e0 : ¬ (p < 1 ∨ 30 < p ∨ k < 0 ∨ p < k) := by
            rintro (z | z | z | z)
            · exact cA z
            · exact cB z
            · exact cC z
            · exact absurd cD (Int32.not_le.mpr z)
          refine q_iload_n dX8_dayRefusal_22 rfl rfl ?_
          refine q_aload_n dX8_dayRefusal_23 rfl rfl ?_
          refine q_get dX8_dayRefusal_24 fX8_dayRefusal_19 (hX) rfl ?_
          refine q_callVd dX8_dayRefusal_27 wX8_dayRefusal_225 (c_allCoins hP hpr) (hP) ⟨_, _, rfl⟩ rfl rfl (Nat.le_of_ble_eq_true rfl) ⟨⟨Nat.le_of_ble_eq_true rfl, Nat.le_of_ble_eq_true rfl⟩, Nat.le_of_ble_eq_true rfl, Nat.le_of_ble_eq_true rfl⟩ ?_
          refine q_icmp_le 38 dX8_dayRefusal_30 (by decide) (fun cE => ?_) (fun cE => ?_)
          · rw [show dyR (pAll f) p k = 0 by unfold dyR; rw [if_neg e0, if_pos cE]]
            refine q_iconst (v := 0) dX8_dayRefusal_38 rfl ?_
            exact q_iret dX8_dayRefusal_39 rfl (Nat.zero_le _) (Nat.zero_le _) (⟨rfl, rfl, rfl⟩)
          · rw [show dyR (pAll f) p k = -2 by unfold dyR; rw [if_neg e0, if_neg cE]]
            refine q_bipush (v := (-2)) dX8_dayRefusal_33 rfl ?_
            refine q_goto 39 dX8_dayRefusal_35 (by decide) ?_
            exact q_iret dX8_dayRefusal_39 rfl (Nat.zero_le _) (Nat.zero_le _) (⟨rfl, rfl, rfl⟩)
        · rw [show dyR (pAll f) p k = -1 by
              unfold dyR
              refine if_pos ?_
              first | exact Or.inr (Or.inr (Or.inr (Int32.not_le.mp cD))) | exact Or.inr (Or.inr (Or.inl cC)) | exact Or.inr (Or.inl cB) | exact Or.inl cA]
          refine q_iconst (v := (-1)) dX8_dayRefusal_20 rfl ?_
          exact q_iret dX8_dayRefusal_21 rfl (Nat.zero_le _) (Nat.zero_le _) (⟨rfl, rfl, rfl⟩)
theorem c_commonDivisor {a b : Nat} (ha : a < 2 ^ 63) (hb : b < 2 ^ 63) (hs : stp 200 a b = true) : Det Γ l mX8_commonDivisor rX8_commonDivisor [.long (lN a), .long (lN b)] as h (some (.long (lN (Nat.gcd a b)))) h := by
  have key : ∀ (d i a' b' : Nat) (v4 v6 : Int64) (v8 : Int32) (ls : List (Nat × Value)), i + d = 200 → a' < 2 ^ 63 → b' < 2 ^ 63 → stp d a' b' = true → Nat.gcd a b = Nat.gcd a' b' → v4 = lN a' → v6 = lN b' → v8 = nI i → lin ls [(4, .long v4), (6, .long v6), (8, .int v8)] → V Γ l mX8_commonDivisor rX8_commonDivisor (Zm Γ rX8_commonDivisor (qD (some (.long (lN (Nat.gcd a b)))) as h)) 0 0 9 ls [] as h := by
    intro d
    induction d with
    | zero =>
      intro i a' b' v4 v6 v8 ls hi h1 h2 h3 h4 e4 e6 e8 hl
      subst e4 e6 e8
      refine V.at ?_ hl
      have hb0 : b' = 0 := by
        cases b' with
        | zero => rfl
        | succ k => simp [stp] at h3
      refine q_iload dX8_commonDivisor_9 rfl ?_
      refine q_sipush (v := 200) dX8_commonDivisor_11 rfl ?_
      refine q_icmp_ge 45 dX8_commonDivisor_14 (by decide) (fun _ => ?_) (fun z => absurd (ge_c 200 rfl (by omega) (by omega)) z)
      refine q_lload dX8_commonDivisor_45 rfl ?_
      exact q_lret dX8_commonDivisor_47 rfl (Nat.zero_le _) (Nat.zero_le _) (⟨by rw [h4, hb0, Nat.gcd_zero_right], rfl, rfl⟩)
    | succ d ih =>
      intro i a' b' v4 v6 v8 ls hi h1 h2 h3 h4 e4 e6 e8 hl
      subst e4 e6 e8
      refine V.at ?_ hl
      refine q_iload dX8_commonDivisor_9 rfl ?_
      refine q_sipush (v := 200) dX8_commonDivisor_11 rfl ?_
      refine q_icmp_ge 45 dX8_commonDivisor_14 (by decide) (fun z => absurd z (lt_c 200 rfl (by omega) (by omega))) (fun _ => ?_)
      refine q_lload dX8_commonDivisor_17 rfl ?_
      refine q_lconst (v := 0) dX8_commonDivisor_19 rfl ?_
      refine q_lcmp dX8_commonDivisor_20 ?_
      refine q_if_eq 45 dX8_commonDivisor_21 (by decide) (fun cE => ?_) (fun cE => ?_)
      · have hb0 : b' = 0 := (pk_lEQ (b := 0) h2 (by omega)).mp (lgc0 cE)
        refine q_lload dX8_commonDivisor_45 rfl ?_
        exact q_lret dX8_commonDivisor_47 rfl (Nat.zero_le _) (Nat.zero_le _) (⟨by rw [h4, hb0, Nat.gcd_zero_right], rfl, rfl⟩)
      · have hb0 : b' ≠ 0 := by
          intro z
          subst z
          exact cE rfl
        refine q_lload dX8_commonDivisor_24 rfl ?_
        refine q_lload dX8_commonDivisor_26 rfl ?_
        refine q_lrem dX8_commonDivisor_28 ((fun z => hb0 ((pk_lEQ (b := 0) h2 (by omega)).mp z))) ?_
        refine q_lstore dX8_commonDivisor_29 (by decide) ?_
        refine q_lload dX8_commonDivisor_31 rfl ?_
        refine q_lstore dX8_commonDivisor_33 (by decide) ?_
        refine q_lload dX8_commonDivisor_35 rfl ?_
        refine q_lstore dX8_commonDivisor_37 (by decide) ?_
        refine q_iinc1 dX8_commonDivisor_39 rfl (by decide) ?_
        refine q_goto 9 dX8_commonDivisor_42 (by decide) ?_
        exact ih (i + 1) b' (a' % b') _ _ _ _ (by omega) h2 (Nat.lt_of_le_of_lt (Nat.mod_le _ _) h1) (by cases b' with | zero => exact absurd rfl hb0 | succ k => exact h3) (by rw [h4, Nat.gcd_comm b' (a' % b'), ← Nat.gcd_rec, Nat.gcd_comm]) rfl (pk_lRem h1 (by omega) h2) (nI_s i) ⟨rfl, rfl, rfl, trivial⟩
  refine Con.of (by decide +kernel) rfl rfl (Nat.le_of_ble_eq_true rfl) ?_
  refine q_lload_n dX8_commonDivisor_0 rfl rfl ?_
  refine q_lstore dX8_commonDivisor_1 (by decide) ?_
  refine q_lload_n dX8_commonDivisor_3 rfl rfl ?_
  refine q_lstore dX8_commonDivisor_4 (by decide) ?_
  refine q_iconst (v := 0) dX8_commonDivisor_6 rfl ?_
  refine q_istore dX8_commonDivisor_7 (by decide) ?_
  exact key 200 0 a b _ _ _ _ (by omega) ha hb hs rfl rfl rfl rfl ⟨rfl, rfl, rfl, trivial⟩
theorem c_leastTerms {up : Int64} {a b : Nat} {wh : Int32} (hup : (if 0 < up then up else -up) = lN a) (ha : a < 2 ^ 63) (hb : b < 2 ^ 63) (hb0 : 0 < b) (hs : stp 200 a b = true) : Det Γ l mX8_leastTerms rX8_leastTerms [.long up, .long (lN b), .int wh] as h (some (.long ((if wh = 0 then up else lN b) / lN (Nat.gcd a b)))) h := by
  have hg : 0 < Nat.gcd a b := Nat.gcd_pos_of_pos_right _ hb0
  have hg2 : Nat.gcd a b < 2 ^ 63 := Nat.lt_of_le_of_lt (Nat.gcd_le_right _ hb0) hb
  have hne : ¬ lN (Nat.gcd a b) = 0 := fun z => absurd ((pk_lEQ (b := 0) hg2 (by omega)).mp z) (by omega)
  refine Con.of (by decide +kernel) rfl rfl (Nat.le_of_ble_eq_true rfl) ?_
  refine q_lload_n dX8_leastTerms_0 rfl rfl ?_
  refine q_mabsL dX8_leastTerms_1 (by decide +kernel) (Nat.le_of_ble_eq_true rfl) (Nat.le_of_ble_eq_true rfl) (Nat.zero_le _) (Nat.zero_le _) ?_
  refine q_lload_n dX8_leastTerms_4 rfl rfl ?_
  rw [hup]
  refine q_callSd dX8_leastTerms_5 wX8_leastTerms_300 (c_commonDivisor ha hb hs) rfl rfl (Nat.le_of_ble_eq_true rfl) ⟨⟨Nat.le_of_ble_eq_true rfl, Nat.le_of_ble_eq_true rfl⟩, Nat.le_of_ble_eq_true rfl, Nat.le_of_ble_eq_true rfl⟩ ?_
  refine q_lstore dX8_leastTerms_8 (by decide) ?_
  refine q_lload dX8_leastTerms_10 rfl ?_
  refine q_lconst (v := 0) dX8_leastTerms_12 rfl ?_
  refine q_lcmp dX8_leastTerms_13 ?_
  refine q_if_ne 21 dX8_leastTerms_14 (by decide) (fun _ => ?_) (fun z => absurd z (fun z => hne (lgc0 z)))
  refine q_iload dX8_leastTerms_21 rfl ?_
  refine q_if_ne 30 dX8_leastTerms_23 (by decide) (fun cW => ?_) (fun cW => ?_)
  · refine q_lload_n dX8_leastTerms_30 rfl rfl ?_
    refine q_lload dX8_leastTerms_31 rfl ?_
    refine q_ldiv dX8_leastTerms_33 (hne) ?_
    exact q_lret dX8_leastTerms_34 rfl (Nat.zero_le _) (Nat.zero_le _) (⟨by first | rw [if_neg cW] | rw [if_pos cW], rfl, rfl⟩)
  · refine q_lload_n dX8_leastTerms_26 rfl rfl ?_
    refine q_goto 31 dX8_leastTerms_27 (by decide) ?_
    refine q_lload dX8_leastTerms_31 rfl ?_
    refine q_ldiv dX8_leastTerms_33 (hne) ?_
    exact q_lret dX8_leastTerms_34 rfl (Nat.zero_le _) (Nat.zero_le _) (⟨by first | rw [if_neg cW] | rw [if_pos cW], rfl, rfl⟩)
theorem c_draw (hX : hat as h X (xo T P S U M D L I tw dr lot yr tc)) : Det Γ l mX8_draw rX8_draw [.ref X] as h (some (.int (nI (drw (lotN lot))))) (hset h X (xo T P S U M D L I tw dr (lotN lot) yr tc)) := by
  refine Con.of (by decide +kernel) rfl rfl (Nat.le_of_ble_eq_true rfl) ?_
  refine q_aload_n dX8_draw_0 rfl rfl ?_
  refine q_aload_n dX8_draw_1 rfl rfl ?_
  refine q_get dX8_draw_2 fX8_draw_71 (hX) rfl ?_
  refine q_ldcw (v := 1103515245) dX8_draw_5 (by decide +kernel) ?_
  refine q_imul dX8_draw_8 ?_
  refine q_sipush (v := 12345) dX8_draw_9 rfl ?_
  refine q_iadd dX8_draw_12 ?_
  refine q_put dX8_draw_13 pX8_draw_71 (hX) rfl rfl (Nat.le_of_ble_eq_true rfl) ?_
  refine q_aload_n dX8_draw_16 rfl rfl ?_
  refine q_get dX8_draw_17 fX8_draw_71 (hat_set hX) rfl ?_
  refine q_bipush (v := 16) dX8_draw_20 rfl ?_
  refine q_iushr dX8_draw_22 ?_
  exact q_iret dX8_draw_23 rfl (Nat.zero_le _) (Nat.zero_le _) (⟨by rw [← us16]; rfl, rfl, rfl⟩)
theorem c_looksNow {p : Nat} (hp : p < 8) (hX : hat as h X (xo T P S U M D L I tw dr lot yr tc)) (ht : hat as h tw (twn aw ax ay ao n)) (hw : hat as h aw (aI Γ 8 w)) (hx : hat as h ax (aI Γ 8 x)) : Det Γ l mX8_looksNow rX8_looksNow [.ref X, .int (nI p)] as h (some (.int (if w p = 2 then bI (decide (nI (drw (lotN lot) % 10) < x p)) else bI (decide (w p = 1))))) (if w p = 2 then hset h X (xo T P S U M D L I tw dr (lotN lot) yr tc) else h) := by
  have e1 := hat_oo ht hX (by decide)
  have e2 := hat_ao hx hX
  refine Con.of (by decide +kernel) rfl rfl (Nat.le_of_ble_eq_true rfl) ?_
  refine q_aload_n dX8_looksNow_0 rfl rfl ?_
  refine q_get dX8_looksNow_1 fX8_looksNow_64 (hX) rfl ?_
  refine q_get dX8_looksNow_4 fX8_looksNow_115 (ht) rfl ?_
  refine q_iload_n dX8_looksNow_7 rfl rfl ?_
  refine q_iald dX8_looksNow_8 (hw) (in_nI hp (by omega)) ?_
  refine q_iconst (v := 2) dX8_looksNow_9 rfl ?_
  rw [nI_clamp (by omega)]
  refine q_icmp_ne 38 dX8_looksNow_10 (by decide) (fun cA => ?_) (fun cA => ?_)
  · rw [if_neg cA, if_neg cA]
    refine q_aload_n dX8_looksNow_38 rfl rfl ?_
    refine q_get dX8_looksNow_39 fX8_looksNow_64 (hX) rfl ?_
    refine q_get dX8_looksNow_42 fX8_looksNow_115 (ht) rfl ?_
    refine q_iload_n dX8_looksNow_45 rfl rfl ?_
    refine q_iald dX8_looksNow_46 (hw) (in_nI hp (by omega)) ?_
    refine q_iconst (v := 1) dX8_looksNow_47 rfl ?_
    rw [nI_clamp (by omega)]
    refine q_icmp_ne 55 dX8_looksNow_48 (by decide) (fun cC => ?_) (fun cC => ?_)
    · rw [decide_eq_false cC]
      refine q_iconst (v := 0) dX8_looksNow_55 rfl ?_
      exact q_zret dX8_looksNow_56 rfl (rfl) (Nat.zero_le _) (Nat.zero_le _) (⟨rfl, rfl, rfl⟩)
    · rw [decide_eq_true cC]
      refine q_iconst (v := 1) dX8_looksNow_51 rfl ?_
      refine q_goto 56 dX8_looksNow_52 (by decide) ?_
      exact q_zret dX8_looksNow_56 rfl (rfl) (Nat.zero_le _) (Nat.zero_le _) (⟨rfl, rfl, rfl⟩)
  · rw [if_pos cA, if_pos cA]
    refine q_aload_n dX8_looksNow_13 rfl rfl ?_
    refine q_callVd dX8_looksNow_14 wX8_looksNow_305 (c_draw hX) (hX) ⟨_, _, rfl⟩ rfl rfl (Nat.le_of_ble_eq_true rfl) ⟨⟨Nat.le_of_ble_eq_true rfl, Nat.le_of_ble_eq_true rfl⟩, Nat.le_of_ble_eq_true rfl, Nat.le_of_ble_eq_true rfl⟩ ?_
    refine q_bipush (v := 10) dX8_looksNow_17 rfl ?_
    refine q_irem dX8_looksNow_19 ((by decide)) ?_
    refine q_aload_n dX8_looksNow_20 rfl rfl ?_
    refine q_get dX8_looksNow_21 fX8_looksNow_64 (hat_set hX) rfl ?_
    refine q_get dX8_looksNow_24 fX8_looksNow_119 (hat_ne ht e1) rfl ?_
    refine q_iload_n dX8_looksNow_27 rfl rfl ?_
    refine q_iald dX8_looksNow_28 (hat_ne hx e2) (in_nI hp (by omega)) ?_
    rw [nI_clamp (by omega), show (10 : Int32) = nI 10 from rfl, pk_rem (Nat.lt_of_lt_of_le (drw_lt _) (by decide)) (by decide) (by decide)]
    refine q_icmp_ge 36 dX8_looksNow_29 (by decide) (fun cB => ?_) (fun cB => ?_)
    · rw [decide_eq_false (Int32.not_lt.mpr cB)]
      refine q_iconst (v := 0) dX8_looksNow_36 rfl ?_
      exact q_zret dX8_looksNow_37 rfl (rfl) (Nat.zero_le _) (Nat.zero_le _) (⟨rfl, rfl, rfl⟩)
    · rw [decide_eq_true (Int32.not_le.mp cB)]
      refine q_iconst (v := 1) dX8_looksNow_32 rfl ?_
      refine q_goto 37 dX8_looksNow_33 (by decide) ?_
      exact q_zret dX8_looksNow_37 rfl (rfl) (Nat.zero_le _) (Nat.zero_le _) (⟨rfl, rfl, rfl⟩)
theorem wtp_up {p most : Nat} (hp : p < 8) (hm : most ≤ 9) (hX : hat as h X (xo T P S U M D L I tw dr lot yr tc)) (hP : hat as h P (ob 4 [.ref pr])) (hpr : hat as h pr (aI Γ 80 f)) {v2 r0 : Int32} : ∀ (d w : Nat) (z : Int32) (ls : List (Nat × Value)), w + d = most + 1 → r0 = fstW f p d w → z = nI w → lin ls [(0, .ref X), (1, .int (nI p)), (2, .int v2), (3, .int (nI most)), (4, .int z)] → V Γ l mX8_weightToPay rX8_weightToPay (Zm Γ rX8_weightToPay (qD (some (.int r0)) as h)) 0 0 34 ls [] as h := by
  intro d
  induction d with
  | zero =>
    intro w z ls hw hr hz hl
    subst hr hz
    refine V.at ?_ hl
    refine q_iload dX8_weightToPay_34 rfl ?_
    refine q_iload_n dX8_weightToPay_36 rfl rfl ?_
    refine q_icmp_gt 62 dX8_weightToPay_37 (by decide) (fun _ => ?_) (fun z => absurd (nI_lt (by omega) (by omega)) z)
    refine q_bipush (v := (-9)) dX8_weightToPay_62 rfl ?_
    exact q_iret dX8_weightToPay_64 rfl (Nat.zero_le _) (Nat.zero_le _) (⟨rfl, rfl, rfl⟩)
  | succ d ih =>
    intro w z ls hw hr hz hl
    subst hz
    refine V.at ?_ hl
    refine q_iload dX8_weightToPay_34 rfl ?_
    refine q_iload_n dX8_weightToPay_36 rfl rfl ?_
    refine q_icmp_gt 62 dX8_weightToPay_37 (by decide) (fun z => absurd z (nI_nlt (by omega) (by omega))) (fun _ => ?_)
    refine q_aload_n dX8_weightToPay_40 rfl rfl ?_
    refine q_get dX8_weightToPay_41 fX8_weightToPay_19 (hX) rfl ?_
    refine q_iload_n dX8_weightToPay_44 rfl rfl ?_
    refine q_iload dX8_weightToPay_45 rfl ?_
    refine q_callVd dX8_weightToPay_47 wX8_weightToPay_135 (c_held hP hpr hp (show w < 10 by omega)) (hP) ⟨_, _, rfl⟩ rfl rfl (Nat.le_of_ble_eq_true rfl) ⟨⟨Nat.le_of_ble_eq_true rfl, Nat.le_of_ble_eq_true rfl⟩, Nat.le_of_ble_eq_true rfl, Nat.le_of_ble_eq_true rfl⟩ ?_
    refine q_if_le 56 dX8_weightToPay_50 (by decide) (fun cA => ?_) (fun cA => ?_)
    · refine q_iinc1 dX8_weightToPay_56 rfl (by decide) ?_
      refine q_goto 34 dX8_weightToPay_59 (by decide) ?_
      exact ih (w + 1) _ _ (by omega) (by rw [hr]; simp only [fstW]; rw [if_pos cA]) (nI_s w) ⟨rfl, rfl, rfl, rfl, rfl, trivial⟩
    · refine q_iload dX8_weightToPay_53 rfl ?_
      exact q_iret dX8_weightToPay_55 rfl (Nat.zero_le _) (Nat.zero_le _) (⟨by rw [hr]; simp only [fstW]; rw [if_neg cA], rfl, rfl⟩)
theorem wtp_dn {p : Nat} (hp : p < 8) (hX : hat as h X (xo T P S U M D L I tw dr lot yr tc)) (hP : hat as h P (ob 4 [.ref pr])) (hpr : hat as h pr (aI Γ 80 f)) {v2 v3 r0 : Int32} : ∀ (k : Nat) (z : Int32) (ls : List (Nat × Value)), k ≤ 10 → r0 = lstW f p k → z + 1 = nI k → lin ls [(0, .ref X), (1, .int (nI p)), (2, .int v2), (3, .int v3), (4, .int z)] → V Γ l mX8_weightToPay rX8_weightToPay (Zm Γ rX8_weightToPay (qD (some (.int r0)) as h)) 0 0 68 ls [] as h := by
  intro k
  induction k with
  | zero =>
    intro z ls hk hr hz hl
    have ez : z = -1 := by rw [show z = z + 1 - 1 from (Int32.add_sub_cancel z 1).symm, hz]; rfl
    subst hr ez
    refine V.at ?_ hl
    refine q_iload dX8_weightToPay_68 rfl ?_
    refine q_if_lt 95 dX8_weightToPay_70 (by decide) (fun _ => ?_) (fun z => absurd ((by decide)) z)
    refine q_bipush (v := (-9)) dX8_weightToPay_95 rfl ?_
    exact q_iret dX8_weightToPay_97 rfl (Nat.zero_le _) (Nat.zero_le _) (⟨rfl, rfl, rfl⟩)
  | succ k ih =>
    intro z ls hk hr hz hl
    have ez : z = nI k := by rw [show z = z + 1 - 1 from (Int32.add_sub_cancel z 1).symm, hz]; exact nI_pred k
    subst ez
    refine V.at ?_ hl
    refine q_iload dX8_weightToPay_68 rfl ?_
    refine q_if_lt 95 dX8_weightToPay_70 (by decide) (fun z => absurd z (nI_pos (by omega))) (fun _ => ?_)
    refine q_aload_n dX8_weightToPay_73 rfl rfl ?_
    refine q_get dX8_weightToPay_74 fX8_weightToPay_19 (hX) rfl ?_
    refine q_iload_n dX8_weightToPay_77 rfl rfl ?_
    refine q_iload dX8_weightToPay_78 rfl ?_
    refine q_callVd dX8_weightToPay_80 wX8_weightToPay_135 (c_held hP hpr hp (show k < 10 by omega)) (hP) ⟨_, _, rfl⟩ rfl rfl (Nat.le_of_ble_eq_true rfl) ⟨⟨Nat.le_of_ble_eq_true rfl, Nat.le_of_ble_eq_true rfl⟩, Nat.le_of_ble_eq_true rfl, Nat.le_of_ble_eq_true rfl⟩ ?_
    refine q_if_le 89 dX8_weightToPay_83 (by decide) (fun cA => ?_) (fun cA => ?_)
    · refine q_iincM dX8_weightToPay_89 rfl (by decide) ?_
      refine q_goto 68 dX8_weightToPay_92 (by decide) ?_
      exact ih _ _ (by omega) (by rw [hr]; simp only [lstW]; rw [if_pos cA]) (m1p1 _) ⟨rfl, rfl, rfl, rfl, rfl, trivial⟩
    · refine q_iload dX8_weightToPay_86 rfl ?_
      exact q_iret dX8_weightToPay_88 rfl (Nat.zero_le _) (Nat.zero_le _) (⟨by rw [hr]; simp only [lstW]; rw [if_neg cA], rfl, rfl⟩)
theorem c_weightToPay {p : Nat} {b : Bool} {lim : Nat} (hp : p < 8) (hlim : lim ≤ 9) (hX : hat as h X (xo T P S U M D L I tw dr lot yr tc)) (hP : hat as h P (ob 4 [.ref pr])) (hpr : hat as h pr (aI Γ 80 f)) (hU : hat as h U (ob 7 [.ref ur])) (hur : hat as h ur (aI Γ 6 u)) (hu : u 0 = nI lim) (ht : hat as h tw (twn aw ax ay ao n)) (hy : hat as h ay (aI Γ 8 y)) : Det Γ l mX8_weightToPay rX8_weightToPay [.ref X, .int (nI p), .int (bI b)] as h (some (.int (wtp f p (if b then lim else 9) (y p)))) h := by
  have tail : ∀ most, most ≤ 9 → V Γ l mX8_weightToPay rX8_weightToPay (Zm Γ rX8_weightToPay (qD (some (.int (wtp f p most (y p)))) as h)) 0 0 17 [(0, .ref X), (1, .int (nI p)), (2, .int (bI b))] [.int (nI most)] as h := by
    intro most hm
    refine q_istore_n dX8_weightToPay_17 rfl (by decide) ?_
    refine q_aload_n dX8_weightToPay_18 rfl rfl ?_
    refine q_get dX8_weightToPay_19 fX8_weightToPay_64 (hX) rfl ?_
    refine q_get dX8_weightToPay_22 fX8_weightToPay_122 (ht) rfl ?_
    refine q_iload_n dX8_weightToPay_25 rfl rfl ?_
    refine q_iald dX8_weightToPay_26 (hy) (in_nI hp (by omega)) ?_
    refine q_iconst (v := 1) dX8_weightToPay_27 rfl ?_
    rw [nI_clamp (by omega)]
    refine q_icmp_ne 65 dX8_weightToPay_28 (by decide) (fun cA => ?_) (fun cA => ?_)
    · refine q_iload_n dX8_weightToPay_65 rfl rfl ?_
      refine q_istore dX8_weightToPay_66 (by decide) ?_
      exact wtp_dn hp hX hP hpr (most + 1) _ _ (by omega) (by unfold wtp; rw [if_neg cA]) (nI_s most) ⟨rfl, rfl, rfl, rfl, rfl, trivial⟩
    · refine q_iconst (v := 0) dX8_weightToPay_31 rfl ?_
      refine q_istore dX8_weightToPay_32 (by decide) ?_
      exact wtp_up hp hm hX hP hpr (most + 1) 0 _ _ (by omega) (by unfold wtp; rw [if_pos cA]) rfl ⟨rfl, rfl, rfl, rfl, rfl, trivial⟩
  refine Con.of (by decide +kernel) rfl rfl (Nat.le_of_ble_eq_true rfl) ?_
  refine q_iload_n dX8_weightToPay_0 rfl rfl ?_
  refine q_if_eq 15 dX8_weightToPay_1 (by decide) (fun cB => ?_) (fun cB => ?_)
  · rw [if_neg (by rw [bI_0.mp cB]; decide)]
    refine q_bipush (v := 9) dX8_weightToPay_15 rfl ?_
    exact tail 9 (by omega)
  · refine q_aload_n dX8_weightToPay_4 rfl rfl ?_
    refine q_get dX8_weightToPay_5 fX8_weightToPay_29 (hX) rfl ?_
    refine q_iconst (v := 0) dX8_weightToPay_8 rfl ?_
    refine q_callVd dX8_weightToPay_9 wX8_weightToPay_172 (c_of (j := 0) hU hur (by omega)) (hU) ⟨_, _, rfl⟩ rfl rfl (Nat.le_of_ble_eq_true rfl) ⟨⟨Nat.le_of_ble_eq_true rfl, Nat.le_of_ble_eq_true rfl⟩, Nat.le_of_ble_eq_true rfl, Nat.le_of_ble_eq_true rfl⟩ ?_
    refine q_goto 17 dX8_weightToPay_12 (by decide) ?_
    rw [if_pos (bI_n.mp cB)]
    exact V.stk (tail lim hlim) (by rw [← hu]; rfl)
theorem c_worthAsItIs {k : Nat} (hX : hat as h X (xo T P S U M D L I tw dr lot yr tc)) (hU : hat as h U (ob 7 [.ref ur])) (hur : hat as h ur (aI Γ 6 u)) : Det Γ l mX8_worthAsItIs rX8_worthAsItIs [.ref X, .int (nI k)] as h (some (.int (asI u k))) h := by
  refine Con.of (by decide +kernel) rfl rfl (Nat.le_of_ble_eq_true rfl) ?_
  refine q_iload_n dX8_worthAsItIs_0 rfl rfl ?_
  refine q_aload_n dX8_worthAsItIs_1 rfl rfl ?_
  refine q_get dX8_worthAsItIs_2 fX8_worthAsItIs_29 (hX) rfl ?_
  refine q_iconst (v := 0) dX8_worthAsItIs_5 rfl ?_
  refine q_callVd dX8_worthAsItIs_6 wX8_worthAsItIs_172 (c_of (j := 0) hU hur (by omega)) (hU) ⟨_, _, rfl⟩ rfl rfl (Nat.le_of_ble_eq_true rfl) ⟨⟨Nat.le_of_ble_eq_true rfl, Nat.le_of_ble_eq_true rfl⟩, Nat.le_of_ble_eq_true rfl, Nat.le_of_ble_eq_true rfl⟩ ?_
  refine q_icmp_gt 17 dX8_worthAsItIs_9 (by decide) (fun cA => ?_) (fun cA => ?_)
  · refine q_bipush (v := 10) dX8_worthAsItIs_17 rfl ?_
    refine q_iload_n dX8_worthAsItIs_19 rfl rfl ?_
    refine q_isub dX8_worthAsItIs_20 ?_
    exact q_iret dX8_worthAsItIs_21 rfl (Nat.zero_le _) (Nat.zero_le _) (⟨by unfold asI; first | rw [if_pos cA] | rw [if_neg cA], rfl, rfl⟩)
  · refine q_bipush (v := 10) dX8_worthAsItIs_12 rfl ?_
    refine q_goto 21 dX8_worthAsItIs_14 (by decide) ?_
    exact q_iret dX8_worthAsItIs_21 rfl (Nat.zero_le _) (Nat.zero_le _) (⟨by unfold asI; first | rw [if_pos cA] | rw [if_neg cA], rfl, rfl⟩)
theorem c_worthScale {k : Nat} (hk : k ≤ 9) : Det Γ l mX8_worthScale rX8_worthScale [.int (nI k)] as h (some (.long (p10 (9 - k)))) h := by
  have key : ∀ (d i : Nat) (v1 : Int64) (v3 : Int32) (ls : List (Nat × Value)), i + d = 9 → k ≤ i → v1 = p10 (i - k) → v3 = nI i → lin ls [(1, .long v1), (3, .int v3)] → V Γ l mX8_worthScale rX8_worthScale (Zm Γ rX8_worthScale (qD (some (.long (p10 (9 - k)))) as h)) 0 0 4 ls [] as h := by
    intro d
    induction d with
    | zero =>
      intro i v1 v3 ls hi hk1 e1 e3 hl
      subst e1 e3
      refine V.at ?_ hl
      refine q_iload_n dX8_worthScale_4 rfl rfl ?_
      refine q_bipush (v := 9) dX8_worthScale_5 rfl ?_
      refine q_icmp_ge 22 dX8_worthScale_7 (by decide) (fun _ => ?_) (fun z => absurd (ge_c 9 rfl (by omega) (by omega)) z)
      refine q_lload_n dX8_worthScale_22 rfl rfl ?_
      exact q_lret dX8_worthScale_23 rfl (Nat.zero_le _) (Nat.zero_le _) (⟨by rw [show i = 9 by omega], rfl, rfl⟩)
    | succ d ih =>
      intro i v1 v3 ls hi hk1 e1 e3 hl
      subst e1 e3
      refine V.at ?_ hl
      refine q_iload_n dX8_worthScale_4 rfl rfl ?_
      refine q_bipush (v := 9) dX8_worthScale_5 rfl ?_
      refine q_icmp_ge 22 dX8_worthScale_7 (by decide) (fun z => absurd z (lt_c 9 rfl (by omega) (by omega))) (fun _ => ?_)
      refine q_lload_n dX8_worthScale_10 rfl rfl ?_
      refine q_ldc2 (v := 10) dX8_worthScale_11 (by decide +kernel) ?_
      refine q_lmul dX8_worthScale_14 ?_
      refine q_lstore_n dX8_worthScale_15 rfl (by decide) ?_
      refine q_iinc1 dX8_worthScale_16 rfl (by decide) ?_
      refine q_goto 4 dX8_worthScale_19 (by decide) ?_
      exact ih (i + 1) _ _ _ (by omega) (by omega) (by rw [show i + 1 - k = (i - k) + 1 by omega]; rfl) (nI_s i) ⟨rfl, rfl, trivial⟩
  refine Con.of (by decide +kernel) rfl rfl (Nat.le_of_ble_eq_true rfl) ?_
  refine q_lconst (v := 1) dX8_worthScale_0 rfl ?_
  refine q_lstore_n dX8_worthScale_1 rfl (by decide) ?_
  refine q_iload_n dX8_worthScale_2 rfl rfl ?_
  refine q_istore_n dX8_worthScale_3 rfl (by decide) ?_
  exact key (9 - k) k _ _ _ (by omega) (by omega) (by rw [Nat.sub_self]; rfl) rfl ⟨rfl, rfl, trivial⟩
theorem c_clippedScaled {k : Nat} {nw : Int64} (hk : k ≤ 8) (hX : hat as h X (xo T P S U M D L I tw dr lot yr tc)) (hU : hat as h U (ob 7 [.ref ur])) (hur : hat as h ur (aI Γ 6 u)) : Det Γ l mX8_clippedScaled rX8_clippedScaled [.ref X, .int (nI k), .long nw] as h (some (.long (clS u k nw))) h := by
  refine Con.of (by decide +kernel) rfl rfl (Nat.le_of_ble_eq_true rfl) ?_
  refine q_iload_n dX8_clippedScaled_0 rfl rfl ?_
  refine q_iconst (v := 1) dX8_clippedScaled_1 rfl ?_
  refine q_iadd dX8_clippedScaled_2 ?_
  rw [nI_s]
  refine q_callSd dX8_clippedScaled_3 wX8_clippedScaled_215 (c_worthScale (show k + 1 ≤ 9 by omega)) rfl rfl (Nat.le_of_ble_eq_true rfl) ⟨⟨Nat.le_of_ble_eq_true rfl, Nat.le_of_ble_eq_true rfl⟩, Nat.le_of_ble_eq_true rfl, Nat.le_of_ble_eq_true rfl⟩ ?_
  refine q_lstore dX8_clippedScaled_6 (by decide) ?_
  refine q_aload_n dX8_clippedScaled_8 rfl rfl ?_
  refine q_get dX8_clippedScaled_9 fX8_clippedScaled_29 (hX) rfl ?_
  refine q_iconst (v := 3) dX8_clippedScaled_12 rfl ?_
  refine q_callVd dX8_clippedScaled_13 wX8_clippedScaled_172 (c_of (j := 3) hU hur (by omega)) (hU) ⟨_, _, rfl⟩ rfl rfl (Nat.le_of_ble_eq_true rfl) ⟨⟨Nat.le_of_ble_eq_true rfl, Nat.le_of_ble_eq_true rfl⟩, Nat.le_of_ble_eq_true rfl, Nat.le_of_ble_eq_true rfl⟩ ?_
  refine q_i2l dX8_clippedScaled_16 ?_
  refine q_lstore dX8_clippedScaled_17 (by decide) ?_
  refine q_ldc2 (v := 10) dX8_clippedScaled_19 (by decide +kernel) ?_
  refine q_lload dX8_clippedScaled_22 rfl ?_
  refine q_lsub dX8_clippedScaled_24 ?_
  refine q_aload_n dX8_clippedScaled_25 rfl rfl ?_
  refine q_get dX8_clippedScaled_26 fX8_clippedScaled_29 (hX) rfl ?_
  refine q_iconst (v := 4) dX8_clippedScaled_29 rfl ?_
  refine q_callVd dX8_clippedScaled_30 wX8_clippedScaled_172 (c_of (j := 4) hU hur (by omega)) (hU) ⟨_, _, rfl⟩ rfl rfl (Nat.le_of_ble_eq_true rfl) ⟨⟨Nat.le_of_ble_eq_true rfl, Nat.le_of_ble_eq_true rfl⟩, Nat.le_of_ble_eq_true rfl, Nat.le_of_ble_eq_true rfl⟩ ?_
  refine q_i2l dX8_clippedScaled_33 ?_
  refine q_lload dX8_clippedScaled_34 rfl ?_
  refine q_lmul dX8_clippedScaled_36 ?_
  refine q_lload_n dX8_clippedScaled_37 rfl rfl ?_
  refine q_ladd dX8_clippedScaled_38 ?_
  refine q_lmul dX8_clippedScaled_39 ?_
  refine q_lload dX8_clippedScaled_40 rfl ?_
  refine q_aload_n dX8_clippedScaled_42 rfl rfl ?_
  refine q_get dX8_clippedScaled_43 fX8_clippedScaled_29 (hX) rfl ?_
  refine q_iconst (v := 2) dX8_clippedScaled_46 rfl ?_
  refine q_callVd dX8_clippedScaled_47 wX8_clippedScaled_172 (c_of (j := 2) hU hur (by omega)) (hU) ⟨_, _, rfl⟩ rfl rfl (Nat.le_of_ble_eq_true rfl) ⟨⟨Nat.le_of_ble_eq_true rfl, Nat.le_of_ble_eq_true rfl⟩, Nat.le_of_ble_eq_true rfl, Nat.le_of_ble_eq_true rfl⟩ ?_
  refine q_i2l dX8_clippedScaled_50 ?_
  refine q_lmul dX8_clippedScaled_51 ?_
  refine q_lload dX8_clippedScaled_52 rfl ?_
  refine q_lmul dX8_clippedScaled_54 ?_
  refine q_lsub dX8_clippedScaled_55 ?_
  exact q_lret dX8_clippedScaled_56 rfl (Nat.zero_le _) (Nat.zero_le _) (⟨by rw [show 9 - (k + 1) = 8 - k by omega]; rfl, rfl, rfl⟩)
theorem pred_lt {a k : Nat} {v : Int32} (hv : v + 1 = nI a) (ha : a < 1000) (hk : k < 1000) : v < nI k ↔ a ≤ k := by
  have hv' : v = nI a - 1 := by rw [← hv]; exact (Int32.add_sub_cancel v 1).symm
  rw [hv', Int32.lt_iff_toInt_lt, show (1 : Int32) = nI 1 from rfl, pk_sub_toInt (by omega) (by omega), nI_toInt (by omega)]
  omega
theorem pred_eq {a : Nat} {v : Int32} (hv : v + 1 = nI (a + 1)) : v = nI a := by
  rw [show v = v + 1 - 1 from (Int32.add_sub_cancel v 1).symm, hv]; exact nI_pred a
theorem c_worthScaled {k : Nat} (hk : k ≤ 9) (hX : hat as h X (xo T P S U M D L I tw dr lot yr tc)) (hU : hat as h U (ob 7 [.ref ur])) (hur : hat as h ur (aI Γ 6 u)) : Det Γ l mX8_worthScaled rX8_worthScaled [.ref X, .int (nI k)] as h (some (.long (wrW u (9 - k)))) h := by
  have key : ∀ (d j : Nat) (v2 : Int64) (v4 : Int32) (ls : List (Nat × Value)), j + d = 9 - k → v2 = wrW u j → v4 + 1 = nI (9 - j) → lin ls [(0, .ref X), (1, .int (nI k)), (2, .long v2), (4, .int v4)] → V Γ l mX8_worthScaled rX8_worthScaled (Zm Γ rX8_worthScaled (qD (some (.long (wrW u (9 - k)))) as h)) 0 0 12 ls [] as h := by
    intro d
    induction d with
    | zero =>
      intro j v2 v4 ls hj e2 e4 hl
      subst e2
      refine V.at ?_ hl
      refine q_iload dX8_worthScaled_12 rfl ?_
      refine q_iload_n dX8_worthScaled_14 rfl rfl ?_
      refine q_icmp_lt 48 dX8_worthScaled_15 (by decide) (fun _ => ?_) (fun z => absurd ((pred_lt e4 (by omega) (by omega)).mpr (by omega)) z)
      refine q_lload_n dX8_worthScaled_48 rfl rfl ?_
      exact q_lret dX8_worthScaled_49 rfl (Nat.zero_le _) (Nat.zero_le _) (⟨by rw [show j = 9 - k by omega], rfl, rfl⟩)
    | succ d ih =>
      intro j v2 v4 ls hj e2 e4 hl
      have e5 : v4 = nI (8 - j) := pred_eq (by rw [e4]; congr 1; omega)
      subst e2 e5
      refine V.at ?_ hl
      refine q_iload dX8_worthScaled_12 rfl ?_
      refine q_iload_n dX8_worthScaled_14 rfl rfl ?_
      refine q_icmp_lt 48 dX8_worthScaled_15 (by decide) (fun z => absurd z (nI_nlt (by omega) (by omega))) (fun _ => ?_)
      refine q_aload_n dX8_worthScaled_18 rfl rfl ?_
      refine q_iload dX8_worthScaled_19 rfl ?_
      refine q_callVd dX8_worthScaled_21 wX8_worthScaled_325 (c_worthAsItIs hX hU hur) (hX) ⟨_, _, rfl⟩ rfl rfl (Nat.le_of_ble_eq_true rfl) ⟨⟨Nat.le_of_ble_eq_true rfl, Nat.le_of_ble_eq_true rfl⟩, Nat.le_of_ble_eq_true rfl, Nat.le_of_ble_eq_true rfl⟩ ?_
      refine q_i2l dX8_worthScaled_24 ?_
      refine q_iload dX8_worthScaled_25 rfl ?_
      refine q_callSd dX8_worthScaled_27 wX8_worthScaled_215 (c_worthScale (show 8 - j ≤ 9 by omega)) rfl rfl (Nat.le_of_ble_eq_true rfl) ⟨⟨Nat.le_of_ble_eq_true rfl, Nat.le_of_ble_eq_true rfl⟩, Nat.le_of_ble_eq_true rfl, Nat.le_of_ble_eq_true rfl⟩ ?_
      refine q_lmul dX8_worthScaled_30 ?_
      refine q_aload_n dX8_worthScaled_31 rfl rfl ?_
      refine q_iload dX8_worthScaled_32 rfl ?_
      refine q_lload_n dX8_worthScaled_34 rfl rfl ?_
      refine q_callVd dX8_worthScaled_35 wX8_worthScaled_328 (c_clippedScaled (show 8 - j ≤ 8 by omega) hX hU hur) (hX) ⟨_, _, rfl⟩ rfl rfl (Nat.le_of_ble_eq_true rfl) ⟨⟨Nat.le_of_ble_eq_true rfl, Nat.le_of_ble_eq_true rfl⟩, Nat.le_of_ble_eq_true rfl, Nat.le_of_ble_eq_true rfl⟩ ?_
      refine q_mmaxL dX8_worthScaled_38 (by decide +kernel) (Nat.le_of_ble_eq_true rfl) (Nat.le_of_ble_eq_true rfl) (Nat.zero_le _) (Nat.zero_le _) ?_
      refine q_lstore_n dX8_worthScaled_41 rfl (by decide) ?_
      refine q_iincM dX8_worthScaled_42 rfl (by decide) ?_
      refine q_goto 12 dX8_worthScaled_45 (by decide) ?_
      exact ih (j + 1) _ _ _ (by omega) (by simp only [wrW]; rw [show 9 - (8 - j) = j + 1 by omega]) (by rw [m1p1]; congr 1; omega) ⟨rfl, rfl, rfl, rfl, trivial⟩
  refine Con.of (by decide +kernel) rfl rfl (Nat.le_of_ble_eq_true rfl) ?_
  refine q_aload_n dX8_worthScaled_0 rfl rfl ?_
  refine q_bipush (v := 9) dX8_worthScaled_1 rfl ?_
  refine q_callVd dX8_worthScaled_3 wX8_worthScaled_325 (c_worthAsItIs (k := 9) hX hU hur) (hX) ⟨_, _, rfl⟩ rfl rfl (Nat.le_of_ble_eq_true rfl) ⟨⟨Nat.le_of_ble_eq_true rfl, Nat.le_of_ble_eq_true rfl⟩, Nat.le_of_ble_eq_true rfl, Nat.le_of_ble_eq_true rfl⟩ ?_
  refine q_i2l dX8_worthScaled_6 ?_
  refine q_lstore_n dX8_worthScaled_7 rfl (by decide) ?_
  refine q_bipush (v := 8) dX8_worthScaled_8 rfl ?_
  refine q_istore dX8_worthScaled_10 (by decide) ?_
  exact key (9 - k) 0 _ _ _ (by omega) rfl rfl ⟨rfl, rfl, rfl, rfl, trivial⟩
theorem c_clippedUntil {k : Nat} (hk : k ≤ 9) (hX : hat as h X (xo T P S U M D L I tw dr lot yr tc)) (hU : hat as h U (ob 7 [.ref ur])) (hur : hat as h ur (aI Γ 6 u)) : Det Γ l mX8_clippedUntil rX8_clippedUntil [.ref X, .int (nI k)] as h (some (.int (unS u (9 - k) k))) h := by
  have key : ∀ (d i : Nat) (r0 v2 : Int32) (ls : List (Nat × Value)), i + d = 9 → r0 = unS u d i → v2 = nI i → lin ls [(0, .ref X), (2, .int v2)] → V Γ l mX8_clippedUntil rX8_clippedUntil (Zm Γ rX8_clippedUntil (qD (some (.int r0)) as h)) 0 0 2 ls [] as h := by
    intro d
    induction d with
    | zero =>
      intro i r0 v2 ls hi hr e2 hl
      subst hr e2
      refine V.at ?_ hl
      refine q_iload_n dX8_clippedUntil_2 rfl rfl ?_
      refine q_bipush (v := 9) dX8_clippedUntil_3 rfl ?_
      refine q_icmp_ge 43 dX8_clippedUntil_5 (by decide) (fun _ => ?_) (fun z => absurd (ge_c 9 rfl (by omega) (by omega)) z)
      refine q_bipush (v := 9) dX8_clippedUntil_43 rfl ?_
      exact q_iret dX8_clippedUntil_45 rfl (Nat.zero_le _) (Nat.zero_le _) (⟨rfl, rfl, rfl⟩)
    | succ d ih =>
      intro i r0 v2 ls hi hr e2 hl
      subst e2
      refine V.at ?_ hl
      refine q_iload_n dX8_clippedUntil_2 rfl rfl ?_
      refine q_bipush (v := 9) dX8_clippedUntil_3 rfl ?_
      refine q_icmp_ge 43 dX8_clippedUntil_5 (by decide) (fun z => absurd z (lt_c 9 rfl (by omega) (by omega))) (fun _ => ?_)
      refine q_aload_n dX8_clippedUntil_8 rfl rfl ?_
      refine q_iload_n dX8_clippedUntil_9 rfl rfl ?_
      refine q_aload_n dX8_clippedUntil_10 rfl rfl ?_
      refine q_iload_n dX8_clippedUntil_11 rfl rfl ?_
      refine q_iconst (v := 1) dX8_clippedUntil_12 rfl ?_
      refine q_iadd dX8_clippedUntil_13 ?_
      rw [nI_s]
      refine q_callVd dX8_clippedUntil_14 wX8_clippedUntil_212 (c_worthScaled (show i + 1 ≤ 9 by omega) hX hU hur) (hX) ⟨_, _, rfl⟩ rfl rfl (Nat.le_of_ble_eq_true rfl) ⟨⟨Nat.le_of_ble_eq_true rfl, Nat.le_of_ble_eq_true rfl⟩, Nat.le_of_ble_eq_true rfl, Nat.le_of_ble_eq_true rfl⟩ ?_
      refine q_callVd dX8_clippedUntil_17 wX8_clippedUntil_328 (c_clippedScaled (show i ≤ 8 by omega) hX hU hur) (hX) ⟨_, _, rfl⟩ rfl rfl (Nat.le_of_ble_eq_true rfl) ⟨⟨Nat.le_of_ble_eq_true rfl, Nat.le_of_ble_eq_true rfl⟩, Nat.le_of_ble_eq_true rfl, Nat.le_of_ble_eq_true rfl⟩ ?_
      refine q_aload_n dX8_clippedUntil_20 rfl rfl ?_
      refine q_iload_n dX8_clippedUntil_21 rfl rfl ?_
      refine q_callVd dX8_clippedUntil_22 wX8_clippedUntil_325 (c_worthAsItIs hX hU hur) (hX) ⟨_, _, rfl⟩ rfl rfl (Nat.le_of_ble_eq_true rfl) ⟨⟨Nat.le_of_ble_eq_true rfl, Nat.le_of_ble_eq_true rfl⟩, Nat.le_of_ble_eq_true rfl, Nat.le_of_ble_eq_true rfl⟩ ?_
      refine q_i2l dX8_clippedUntil_25 ?_
      refine q_iload_n dX8_clippedUntil_26 rfl rfl ?_
      refine q_callSd dX8_clippedUntil_27 wX8_clippedUntil_215 (c_worthScale (show i ≤ 9 by omega)) rfl rfl (Nat.le_of_ble_eq_true rfl) ⟨⟨Nat.le_of_ble_eq_true rfl, Nat.le_of_ble_eq_true rfl⟩, Nat.le_of_ble_eq_true rfl, Nat.le_of_ble_eq_true rfl⟩ ?_
      refine q_lmul dX8_clippedUntil_30 ?_
      refine q_lcmp dX8_clippedUntil_31 ?_
      refine q_if_gt 37 dX8_clippedUntil_32 (by decide) (fun cA => ?_) (fun cA => ?_)
      · refine q_iinc1 dX8_clippedUntil_37 rfl (by decide) ?_
        refine q_goto 2 dX8_clippedUntil_40 (by decide) ?_
        exact ih (i + 1) _ _ _ (by omega) (by rw [hr]; simp only [unS]; rw [if_pos (by have := (lg_cmp_gt _ _).mp cA; rwa [show 9 - (i + 1) = 8 - i by omega] at this)]) (nI_s i) ⟨rfl, rfl, trivial⟩
      · refine q_iload_n dX8_clippedUntil_35 rfl rfl ?_
        exact q_iret dX8_clippedUntil_36 rfl (Nat.zero_le _) (Nat.zero_le _) (⟨by rw [hr]; simp only [unS]; rw [if_neg (fun z => cA ((lg_cmp_gt _ _).mpr (by rw [show 9 - (i + 1) = 8 - i by omega]; exact z)))], rfl, rfl⟩)
  refine Con.of (by decide +kernel) rfl rfl (Nat.le_of_ble_eq_true rfl) ?_
  refine q_iload_n dX8_clippedUntil_0 rfl rfl ?_
  refine q_istore_n dX8_clippedUntil_1 rfl (by decide) ?_
  exact key (9 - k) k _ _ _ (by omega) rfl rfl ⟨rfl, rfl, trivial⟩
theorem c_heldAt {p : Nat} {x c : Int32} (hp : p < 8) (hX : hat as h X (xo T P S U M D L I tw dr lot yr tc)) (hP : hat as h P (ob 4 [.ref pr])) (hpr : hat as h pr (aI Γ 80 f)) (hU : hat as h U (ob 7 [.ref ur])) (hur : hat as h ur (aI Γ 6 u)) : Det Γ l mX8_heldAtWhenMelted rX8_heldAtWhenMelted [.ref X, .int (nI p), .int x, .int c] as h (some (.int (hmF f u p x c))) h := by
  have key : ∀ (d k : Nat) (v4 v5 v6 : Int32) (ls : List (Nat × Value)), k + d = 10 → v4 = (hmS f u p x k).1 → v5 = (hmS f u p x k).2 → v6 = nI k → lin ls [(0, .ref X), (1, .int (nI p)), (2, .int x), (3, .int c), (4, .int v4), (5, .int v5), (6, .int v6)] → V Γ l mX8_heldAtWhenMelted rX8_heldAtWhenMelted (Zm Γ rX8_heldAtWhenMelted (qD (some (.int (hmF f u p x c))) as h)) 0 0 9 ls [] as h := by
    intro d
    induction d with
    | zero =>
      intro k v4 v5 v6 ls hk e4 e5 e6 hl
      subst e4 e5 e6
      refine V.at ?_ hl
      refine q_iload dX8_heldAtWhenMelted_9 rfl ?_
      refine q_bipush (v := 10) dX8_heldAtWhenMelted_11 rfl ?_
      refine q_icmp_ge 70 dX8_heldAtWhenMelted_13 (by decide) (fun _ => ?_) (fun z => absurd (ge_c 10 rfl (by omega) (by omega)) z)
      refine q_iload dX8_heldAtWhenMelted_70 rfl ?_
      refine q_iload dX8_heldAtWhenMelted_72 rfl ?_
      refine q_bipush (v := 100) dX8_heldAtWhenMelted_74 rfl ?_
      refine q_iload_n dX8_heldAtWhenMelted_76 rfl rfl ?_
      refine q_isub dX8_heldAtWhenMelted_77 ?_
      refine q_imul dX8_heldAtWhenMelted_78 ?_
      refine q_sipush (v := 1000) dX8_heldAtWhenMelted_79 rfl ?_
      refine q_idiv dX8_heldAtWhenMelted_82 ((by decide)) ?_
      refine q_bipush (v := 10) dX8_heldAtWhenMelted_83 rfl ?_
      refine q_imul dX8_heldAtWhenMelted_85 ?_
      refine q_iadd dX8_heldAtWhenMelted_86 ?_
      exact q_iret dX8_heldAtWhenMelted_87 rfl (Nat.zero_le _) (Nat.zero_le _) (⟨by rw [show k = 10 by omega]; rfl, rfl, rfl⟩)
    | succ d ih =>
      intro k v4 v5 v6 ls hk e4 e5 e6 hl
      subst e4 e5 e6
      refine V.at ?_ hl
      refine q_iload dX8_heldAtWhenMelted_9 rfl ?_
      refine q_bipush (v := 10) dX8_heldAtWhenMelted_11 rfl ?_
      refine q_icmp_ge 70 dX8_heldAtWhenMelted_13 (by decide) (fun z => absurd z (lt_c 10 rfl (by omega) (by omega))) (fun _ => ?_)
      refine q_aload_n dX8_heldAtWhenMelted_16 rfl rfl ?_
      refine q_get dX8_heldAtWhenMelted_17 fX8_heldAtWhenMelted_19 (hX) rfl ?_
      refine q_iload_n dX8_heldAtWhenMelted_20 rfl rfl ?_
      refine q_iload dX8_heldAtWhenMelted_21 rfl ?_
      refine q_callVd dX8_heldAtWhenMelted_23 wX8_heldAtWhenMelted_135 (c_held hP hpr hp (show k < 10 by omega)) (hP) ⟨_, _, rfl⟩ rfl rfl (Nat.le_of_ble_eq_true rfl) ⟨⟨Nat.le_of_ble_eq_true rfl, Nat.le_of_ble_eq_true rfl⟩, Nat.le_of_ble_eq_true rfl, Nat.le_of_ble_eq_true rfl⟩ ?_
      refine q_istore dX8_heldAtWhenMelted_26 (by decide) ?_
      refine q_iload dX8_heldAtWhenMelted_28 rfl ?_
      refine q_iload_n dX8_heldAtWhenMelted_30 rfl rfl ?_
      refine q_icmp_lt 50 dX8_heldAtWhenMelted_31 (by decide) (fun cA => ?_) (fun cA => ?_)
      · refine q_iload dX8_heldAtWhenMelted_50 rfl ?_
        refine q_iload dX8_heldAtWhenMelted_52 rfl ?_
        refine q_aload_n dX8_heldAtWhenMelted_54 rfl rfl ?_
        refine q_iload dX8_heldAtWhenMelted_55 rfl ?_
        refine q_callVd dX8_heldAtWhenMelted_57 wX8_heldAtWhenMelted_325 (c_worthAsItIs hX hU hur) (hX) ⟨_, _, rfl⟩ rfl rfl (Nat.le_of_ble_eq_true rfl) ⟨⟨Nat.le_of_ble_eq_true rfl, Nat.le_of_ble_eq_true rfl⟩, Nat.le_of_ble_eq_true rfl, Nat.le_of_ble_eq_true rfl⟩ ?_
        refine q_imul dX8_heldAtWhenMelted_60 ?_
        refine q_iadd dX8_heldAtWhenMelted_61 ?_
        refine q_istore dX8_heldAtWhenMelted_62 (by decide) ?_
        refine q_iinc1 dX8_heldAtWhenMelted_64 rfl (by decide) ?_
        refine q_goto 9 dX8_heldAtWhenMelted_67 (by decide) ?_
        exact ih (k + 1) _ _ _ _ (by omega) (by simp only [hmS]; first | rw [if_pos cA] | rw [if_neg cA]) (by simp only [hmS]; first | rw [if_pos cA] | rw [if_neg cA]) (nI_s k) ⟨rfl, rfl, rfl, rfl, rfl, rfl, rfl, trivial⟩
      · refine q_iload dX8_heldAtWhenMelted_34 rfl ?_
        refine q_iload dX8_heldAtWhenMelted_36 rfl ?_
        refine q_bipush (v := 10) dX8_heldAtWhenMelted_38 rfl ?_
        refine q_iload dX8_heldAtWhenMelted_40 rfl ?_
        refine q_isub dX8_heldAtWhenMelted_42 ?_
        refine q_imul dX8_heldAtWhenMelted_43 ?_
        refine q_iadd dX8_heldAtWhenMelted_44 ?_
        refine q_istore dX8_heldAtWhenMelted_45 (by decide) ?_
        refine q_goto 64 dX8_heldAtWhenMelted_47 (by decide) ?_
        refine q_iinc1 dX8_heldAtWhenMelted_64 rfl (by decide) ?_
        refine q_goto 9 dX8_heldAtWhenMelted_67 (by decide) ?_
        exact ih (k + 1) _ _ _ _ (by omega) (by simp only [hmS]; first | rw [if_pos cA] | rw [if_neg cA]) (by simp only [hmS]; first | rw [if_pos cA] | rw [if_neg cA]) (nI_s k) ⟨rfl, rfl, rfl, rfl, rfl, rfl, rfl, trivial⟩
  refine Con.of (by decide +kernel) rfl rfl (Nat.le_of_ble_eq_true rfl) ?_
  refine q_iconst (v := 0) dX8_heldAtWhenMelted_0 rfl ?_
  refine q_istore dX8_heldAtWhenMelted_1 (by decide) ?_
  refine q_iconst (v := 0) dX8_heldAtWhenMelted_3 rfl ?_
  refine q_istore dX8_heldAtWhenMelted_4 (by decide) ?_
  refine q_iconst (v := 0) dX8_heldAtWhenMelted_6 rfl ?_
  refine q_istore dX8_heldAtWhenMelted_7 (by decide) ?_
  exact key 10 0 _ _ _ _ (by omega) rfl rfl rfl ⟨rfl, rfl, rfl, rfl, rfl, rfl, rfl, trivial⟩
end

