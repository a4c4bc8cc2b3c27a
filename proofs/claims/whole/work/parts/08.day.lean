/-! DAY (X0) -/
abbrev mX0_sumGrains : mT := (yX0_sumGrains, RX0, cX0_sumGrains, 8, none, wsX0_sumGrains)
abbrev rX0_sumGrains : Room := { frames := 0, cells := 0, slots := 0, locals := 0 }
theorem dX0_sumGrains_0 : decode cX0_sumGrains 0 = .ok (.aload_n 1, 1) := by decide +kernel
theorem dX0_sumGrains_1 : decode cX0_sumGrains 1 = .ok (.iconst 0, 1) := by decide +kernel
theorem dX0_sumGrains_2 : decode cX0_sumGrains 2 = .ok (.iconst 0, 1) := by decide +kernel
theorem dX0_sumGrains_3 : decode cX0_sumGrains 3 = .ok (.iastore, 1) := by decide +kernel
theorem dX0_sumGrains_4 : decode cX0_sumGrains 4 = .ok (.iconst 0, 1) := by decide +kernel
theorem dX0_sumGrains_5 : decode cX0_sumGrains 5 = .ok (.istore 4, 2) := by decide +kernel
theorem dX0_sumGrains_7 : decode cX0_sumGrains 7 = .ok (.iconst 0, 1) := by decide +kernel
theorem dX0_sumGrains_8 : decode cX0_sumGrains 8 = .ok (.istore 5, 2) := by decide +kernel
theorem dX0_sumGrains_10 : decode cX0_sumGrains 10 = .ok (.iload 5, 2) := by decide +kernel
theorem dX0_sumGrains_12 : decode cX0_sumGrains 12 = .ok (.bipush 10, 2) := by decide +kernel
theorem dX0_sumGrains_14 : decode cX0_sumGrains 14 = .ok (.if_icmp .ge 66, 3) := by decide +kernel
theorem dX0_sumGrains_17 : decode cX0_sumGrains 17 = .ok (.iload_n 2, 1) := by decide +kernel
theorem dX0_sumGrains_18 : decode cX0_sumGrains 18 = .ok (.iload_n 3, 1) := by decide +kernel
theorem dX0_sumGrains_19 : decode cX0_sumGrains 19 = .ok (.iload 5, 2) := by decide +kernel
theorem dX0_sumGrains_21 : decode cX0_sumGrains 21 = .ok (.imul, 1) := by decide +kernel
theorem dX0_sumGrains_22 : decode cX0_sumGrains 22 = .ok (.iadd, 1) := by decide +kernel
theorem dX0_sumGrains_23 : decode cX0_sumGrains 23 = .ok (.istore 6, 2) := by decide +kernel
theorem dX0_sumGrains_25 : decode cX0_sumGrains 25 = .ok (.iconst 0, 1) := by decide +kernel
theorem dX0_sumGrains_26 : decode cX0_sumGrains 26 = .ok (.istore 7, 2) := by decide +kernel
theorem dX0_sumGrains_28 : decode cX0_sumGrains 28 = .ok (.iload 7, 2) := by decide +kernel
theorem dX0_sumGrains_30 : decode cX0_sumGrains 30 = .ok (.aload_n 0, 1) := by decide +kernel
theorem dX0_sumGrains_31 : decode cX0_sumGrains 31 = .ok (.getfield 9, 3) := by decide +kernel
theorem dX0_sumGrains_34 : decode cX0_sumGrains 34 = .ok (.iload 6, 2) := by decide +kernel
theorem dX0_sumGrains_36 : decode cX0_sumGrains 36 = .ok (.iaload, 1) := by decide +kernel
theorem dX0_sumGrains_37 : decode cX0_sumGrains 37 = .ok (.if_icmp .ge 37, 3) := by decide +kernel
theorem dX0_sumGrains_40 : decode cX0_sumGrains 40 = .ok (.iload 4, 2) := by decide +kernel
theorem dX0_sumGrains_42 : decode cX0_sumGrains 42 = .ok (.aload_n 0, 1) := by decide +kernel
theorem dX0_sumGrains_43 : decode cX0_sumGrains 43 = .ok (.getfield 21, 3) := by decide +kernel
theorem dX0_sumGrains_46 : decode cX0_sumGrains 46 = .ok (.if_icmp .ge 28, 3) := by decide +kernel
theorem dX0_sumGrains_49 : decode cX0_sumGrains 49 = .ok (.iinc 4 1, 3) := by decide +kernel
theorem dX0_sumGrains_52 : decode cX0_sumGrains 52 = .ok (.aload_n 1, 1) := by decide +kernel
theorem dX0_sumGrains_53 : decode cX0_sumGrains 53 = .ok (.iload 4, 2) := by decide +kernel
theorem dX0_sumGrains_55 : decode cX0_sumGrains 55 = .ok (.aload_n 1, 1) := by decide +kernel
theorem dX0_sumGrains_56 : decode cX0_sumGrains 56 = .ok (.iload 4, 2) := by decide +kernel
theorem dX0_sumGrains_58 : decode cX0_sumGrains 58 = .ok (.iconst 1, 1) := by decide +kernel
theorem dX0_sumGrains_59 : decode cX0_sumGrains 59 = .ok (.isub, 1) := by decide +kernel
theorem dX0_sumGrains_60 : decode cX0_sumGrains 60 = .ok (.iaload, 1) := by decide +kernel
theorem dX0_sumGrains_61 : decode cX0_sumGrains 61 = .ok (.bipush 10, 2) := by decide +kernel
theorem dX0_sumGrains_63 : decode cX0_sumGrains 63 = .ok (.iadd, 1) := by decide +kernel
theorem dX0_sumGrains_64 : decode cX0_sumGrains 64 = .ok (.iload 6, 2) := by decide +kernel
theorem dX0_sumGrains_66 : decode cX0_sumGrains 66 = .ok (.isub, 1) := by decide +kernel
theorem dX0_sumGrains_67 : decode cX0_sumGrains 67 = .ok (.iastore, 1) := by decide +kernel
theorem dX0_sumGrains_68 : decode cX0_sumGrains 68 = .ok (.iinc 7 1, 3) := by decide +kernel
theorem dX0_sumGrains_71 : decode cX0_sumGrains 71 = .ok (.goto (-43), 3) := by decide +kernel
theorem dX0_sumGrains_74 : decode cX0_sumGrains 74 = .ok (.iinc 5 1, 3) := by decide +kernel
theorem dX0_sumGrains_77 : decode cX0_sumGrains 77 = .ok (.goto (-67), 3) := by decide +kernel
theorem dX0_sumGrains_80 : decode cX0_sumGrains 80 = .ok (.return_, 1) := by decide +kernel
theorem iX0_sumGrains_0 : ∀ w ∈ wsX00, w ∈ wsX0_sumGrains := fun w h => List.mem_cons_of_mem _ (List.mem_append_right _ h)
theorem fX0_sumGrains_9 : FL mX0_sumGrains 9 0 0 := ⟨_, _, _, rfl, by decide, iX0_sumGrains_0, by decide +kernel⟩
theorem fX0_sumGrains_21 : FL mX0_sumGrains 21 0 3 := ⟨_, _, _, rfl, by decide, iX0_sumGrains_0, by decide +kernel⟩
abbrev mX0_lay : mT := (yX0_lay, RX0, cX0_lay, 5, none, wsX0_lay)
abbrev rX0_lay : Room := { frames := 2, cells := 0, slots := 0, locals := 45 }
theorem dX0_lay_0 : decode cX0_lay 0 = .ok (.aload_n 0, 1) := by decide +kernel
theorem dX0_lay_1 : decode cX0_lay 1 = .ok (.iload_n 2, 1) := by decide +kernel
theorem dX0_lay_2 : decode cX0_lay 2 = .ok (.putfield 21, 3) := by decide +kernel
theorem dX0_lay_5 : decode cX0_lay 5 = .ok (.aload_n 0, 1) := by decide +kernel
theorem dX0_lay_6 : decode cX0_lay 6 = .ok (.iload_n 3, 1) := by decide +kernel
theorem dX0_lay_7 : decode cX0_lay 7 = .ok (.putfield 25, 3) := by decide +kernel
theorem dX0_lay_10 : decode cX0_lay 10 = .ok (.iconst 0, 1) := by decide +kernel
theorem dX0_lay_11 : decode cX0_lay 11 = .ok (.istore 4, 2) := by decide +kernel
theorem dX0_lay_13 : decode cX0_lay 13 = .ok (.iload 4, 2) := by decide +kernel
theorem dX0_lay_15 : decode cX0_lay 15 = .ok (.bipush 10, 2) := by decide +kernel
theorem dX0_lay_17 : decode cX0_lay 17 = .ok (.if_icmp .ge 22, 3) := by decide +kernel
theorem dX0_lay_20 : decode cX0_lay 20 = .ok (.aload_n 0, 1) := by decide +kernel
theorem dX0_lay_21 : decode cX0_lay 21 = .ok (.getfield 9, 3) := by decide +kernel
theorem dX0_lay_24 : decode cX0_lay 24 = .ok (.iload 4, 2) := by decide +kernel
theorem dX0_lay_26 : decode cX0_lay 26 = .ok (.aload_n 1, 1) := by decide +kernel
theorem dX0_lay_27 : decode cX0_lay 27 = .ok (.iload 4, 2) := by decide +kernel
theorem dX0_lay_29 : decode cX0_lay 29 = .ok (.invokevirtual 28, 3) := by decide +kernel
theorem dX0_lay_32 : decode cX0_lay 32 = .ok (.iastore, 1) := by decide +kernel
theorem dX0_lay_33 : decode cX0_lay 33 = .ok (.iinc 4 1, 3) := by decide +kernel
theorem dX0_lay_36 : decode cX0_lay 36 = .ok (.goto (-23), 3) := by decide +kernel
theorem dX0_lay_39 : decode cX0_lay 39 = .ok (.aload_n 0, 1) := by decide +kernel
theorem dX0_lay_40 : decode cX0_lay 40 = .ok (.aload_n 0, 1) := by decide +kernel
theorem dX0_lay_41 : decode cX0_lay 41 = .ok (.getfield 15, 3) := by decide +kernel
theorem dX0_lay_44 : decode cX0_lay 44 = .ok (.iconst 0, 1) := by decide +kernel
theorem dX0_lay_45 : decode cX0_lay 45 = .ok (.iconst 1, 1) := by decide +kernel
theorem dX0_lay_46 : decode cX0_lay 46 = .ok (.invokevirtual 33, 3) := by decide +kernel
theorem dX0_lay_49 : decode cX0_lay 49 = .ok (.aload_n 0, 1) := by decide +kernel
theorem dX0_lay_50 : decode cX0_lay 50 = .ok (.aload_n 0, 1) := by decide +kernel
theorem dX0_lay_51 : decode cX0_lay 51 = .ok (.getfield 18, 3) := by decide +kernel
theorem dX0_lay_54 : decode cX0_lay 54 = .ok (.bipush 9, 2) := by decide +kernel
theorem dX0_lay_56 : decode cX0_lay 56 = .ok (.iconst (-1), 1) := by decide +kernel
theorem dX0_lay_57 : decode cX0_lay 57 = .ok (.invokevirtual 33, 3) := by decide +kernel
theorem dX0_lay_60 : decode cX0_lay 60 = .ok (.return_, 1) := by decide +kernel
theorem iX0_lay_0 : ∀ w ∈ wsX00, w ∈ wsX0_lay := fun w h => List.mem_cons_of_mem _ (List.mem_append_left _ (List.mem_append_right _ h))
theorem fX0_lay_9 : FL mX0_lay 9 0 0 := ⟨_, _, _, rfl, by decide, iX0_lay_0, by decide +kernel⟩
theorem fX0_lay_15 : FL mX0_lay 15 0 1 := ⟨_, _, _, rfl, by decide, iX0_lay_0, by decide +kernel⟩
theorem fX0_lay_18 : FL mX0_lay 18 0 2 := ⟨_, _, _, rfl, by decide, iX0_lay_0, by decide +kernel⟩
theorem pX0_lay_21 : FP mX0_lay 21 0 3 .int false := ⟨_, _, _, tyX0, rfl, by decide, iX0_lay_0, by decide +kernel, tyX0_ok, nmX0, rfl, rfl, fun z => absurd z (by decide)⟩
theorem pX0_lay_25 : FP mX0_lay 25 0 4 .int false := ⟨_, _, _, tyX0, rfl, by decide, iX0_lay_0, by decide +kernel, tyX0_ok, nmX0, rfl, rfl, fun z => absurd z (by decide)⟩
set_option maxRecDepth 20000 in
theorem ggX0_lay_X4_ofWeight : GoodIn wsX0_lay wsX4_ofWeight := goodIn_r _ [10, 11, 12, 13, 9, 14, 15, 26] (by decide +kernel) (by decide +kernel)
set_option maxRecDepth 20000 in
theorem gX0_lay_X4_ofWeight : GoodIn wsX0_lay (wsV RX0 28 RX4 yX4_ofWeight wsX4_ofWeight) := goodIn_app (goodIn_of _ (by decide +kernel)) ggX0_lay_X4_ofWeight
theorem wX0_lay_28 : CWV mX0_lay 28 mX4_ofWeight 1 := ⟨gX0_lay_X4_ofWeight, ⟨_, rfl⟩, rfl, by decide +kernel, by decide +kernel, by decide +kernel⟩
set_option maxRecDepth 20000 in
theorem ggX0_lay_X0_sumGrains : GoodIn wsX0_lay wsX0_sumGrains := goodIn_r _ [20, 3, 1, 21, 22, 23, 24, 25] (by decide +kernel) (by decide +kernel)
set_option maxRecDepth 20000 in
theorem gX0_lay_X0_sumGrains : GoodIn wsX0_lay (wsV RX0 33 RX0 yX0_sumGrains wsX0_sumGrains) := goodIn_app (goodIn_of _ (by decide +kernel)) ggX0_lay_X0_sumGrains
theorem wX0_lay_33 : CWV mX0_lay 33 mX0_sumGrains 3 := ⟨gX0_lay_X0_sumGrains, ⟨_, rfl⟩, rfl, by decide +kernel, by decide +kernel, by decide +kernel⟩
abbrev mX0_taleUpper : mT := (yX0_taleUpper, RX0, cX0_taleUpper, 2, (some .long), wsX0_taleUpper)
abbrev rX0_taleUpper : Room := { frames := 0, cells := 0, slots := 0, locals := 0 }
theorem dX0_taleUpper_0 : decode cX0_taleUpper 0 = .ok (.aload_n 0, 1) := by decide +kernel
theorem dX0_taleUpper_1 : decode cX0_taleUpper 1 = .ok (.getfield 18, 3) := by decide +kernel
theorem dX0_taleUpper_4 : decode cX0_taleUpper 4 = .ok (.aload_n 0, 1) := by decide +kernel
theorem dX0_taleUpper_5 : decode cX0_taleUpper 5 = .ok (.getfield 21, 3) := by decide +kernel
theorem dX0_taleUpper_8 : decode cX0_taleUpper 8 = .ok (.iload_n 1, 1) := by decide +kernel
theorem dX0_taleUpper_9 : decode cX0_taleUpper 9 = .ok (.isub, 1) := by decide +kernel
theorem dX0_taleUpper_10 : decode cX0_taleUpper 10 = .ok (.iaload, 1) := by decide +kernel
theorem dX0_taleUpper_11 : decode cX0_taleUpper 11 = .ok (.i2l, 1) := by decide +kernel
theorem dX0_taleUpper_12 : decode cX0_taleUpper 12 = .ok (.lreturn, 1) := by decide +kernel
theorem iX0_taleUpper_0 : ∀ w ∈ wsX00, w ∈ wsX0_taleUpper := fun w h => List.mem_cons_of_mem _ (List.mem_append_right _ h)
theorem fX0_taleUpper_18 : FL mX0_taleUpper 18 0 2 := ⟨_, _, _, rfl, by decide, iX0_taleUpper_0, by decide +kernel⟩
theorem fX0_taleUpper_21 : FL mX0_taleUpper 21 0 3 := ⟨_, _, _, rfl, by decide, iX0_taleUpper_0, by decide +kernel⟩
abbrev mX0_taleLower : mT := (yX0_taleLower, RX0, cX0_taleLower, 2, (some .long), wsX0_taleLower)
abbrev rX0_taleLower : Room := { frames := 0, cells := 0, slots := 0, locals := 0 }
theorem dX0_taleLower_0 : decode cX0_taleLower 0 = .ok (.aload_n 0, 1) := by decide +kernel
theorem dX0_taleLower_1 : decode cX0_taleLower 1 = .ok (.getfield 21, 3) := by decide +kernel
theorem dX0_taleLower_4 : decode cX0_taleLower 4 = .ok (.iload_n 1, 1) := by decide +kernel
theorem dX0_taleLower_5 : decode cX0_taleLower 5 = .ok (.isub, 1) := by decide +kernel
theorem dX0_taleLower_6 : decode cX0_taleLower 6 = .ok (.i2l, 1) := by decide +kernel
theorem dX0_taleLower_7 : decode cX0_taleLower 7 = .ok (.lreturn, 1) := by decide +kernel
theorem iX0_taleLower_0 : ∀ w ∈ wsX00, w ∈ wsX0_taleLower := fun w h => List.mem_cons_of_mem _ (List.mem_append_right _ h)
theorem fX0_taleLower_21 : FL mX0_taleLower 21 0 3 := ⟨_, _, _, rfl, by decide, iX0_taleLower_0, by decide +kernel⟩
abbrev mX0_lookUpper : mT := (yX0_lookUpper, RX0, cX0_lookUpper, 2, (some .long), wsX0_lookUpper)
abbrev rX0_lookUpper : Room := { frames := 0, cells := 0, slots := 0, locals := 0 }
theorem dX0_lookUpper_0 : decode cX0_lookUpper 0 = .ok (.bipush 10, 2) := by decide +kernel
theorem dX0_lookUpper_2 : decode cX0_lookUpper 2 = .ok (.aload_n 0, 1) := by decide +kernel
theorem dX0_lookUpper_3 : decode cX0_lookUpper 3 = .ok (.getfield 15, 3) := by decide +kernel
theorem dX0_lookUpper_6 : decode cX0_lookUpper 6 = .ok (.iload_n 1, 1) := by decide +kernel
theorem dX0_lookUpper_7 : decode cX0_lookUpper 7 = .ok (.iaload, 1) := by decide +kernel
theorem dX0_lookUpper_8 : decode cX0_lookUpper 8 = .ok (.imul, 1) := by decide +kernel
theorem dX0_lookUpper_9 : decode cX0_lookUpper 9 = .ok (.aload_n 0, 1) := by decide +kernel
theorem dX0_lookUpper_10 : decode cX0_lookUpper 10 = .ok (.getfield 25, 3) := by decide +kernel
theorem dX0_lookUpper_13 : decode cX0_lookUpper 13 = .ok (.iload_n 1, 1) := by decide +kernel
theorem dX0_lookUpper_14 : decode cX0_lookUpper 14 = .ok (.imul, 1) := by decide +kernel
theorem dX0_lookUpper_15 : decode cX0_lookUpper 15 = .ok (.isub, 1) := by decide +kernel
theorem dX0_lookUpper_16 : decode cX0_lookUpper 16 = .ok (.i2l, 1) := by decide +kernel
theorem dX0_lookUpper_17 : decode cX0_lookUpper 17 = .ok (.lreturn, 1) := by decide +kernel
theorem iX0_lookUpper_0 : ∀ w ∈ wsX00, w ∈ wsX0_lookUpper := fun w h => List.mem_cons_of_mem _ (List.mem_append_right _ h)
theorem fX0_lookUpper_15 : FL mX0_lookUpper 15 0 1 := ⟨_, _, _, rfl, by decide, iX0_lookUpper_0, by decide +kernel⟩
theorem fX0_lookUpper_25 : FL mX0_lookUpper 25 0 4 := ⟨_, _, _, rfl, by decide, iX0_lookUpper_0, by decide +kernel⟩
abbrev mX0_lookLower : mT := (yX0_lookLower, RX0, cX0_lookLower, 2, (some .long), wsX0_lookLower)
abbrev rX0_lookLower : Room := { frames := 0, cells := 0, slots := 0, locals := 0 }
theorem dX0_lookLower_0 : decode cX0_lookLower 0 = .ok (.bipush 10, 2) := by decide +kernel
theorem dX0_lookLower_2 : decode cX0_lookLower 2 = .ok (.iload_n 1, 1) := by decide +kernel
theorem dX0_lookLower_3 : decode cX0_lookLower 3 = .ok (.imul, 1) := by decide +kernel
theorem dX0_lookLower_4 : decode cX0_lookLower 4 = .ok (.i2l, 1) := by decide +kernel
theorem dX0_lookLower_5 : decode cX0_lookLower 5 = .ok (.lreturn, 1) := by decide +kernel
abbrev mX0_lookOverTale : mT := (yX0_lookOverTale, RX0, cX0_lookOverTale, 2, (some .long), wsX0_lookOverTale)
abbrev rX0_lookOverTale : Room := { frames := 1, cells := 0, slots := 0, locals := 21 }
theorem dX0_lookOverTale_0 : decode cX0_lookOverTale 0 = .ok (.aload_n 0, 1) := by decide +kernel
theorem dX0_lookOverTale_1 : decode cX0_lookOverTale 1 = .ok (.iload_n 1, 1) := by decide +kernel
theorem dX0_lookOverTale_2 : decode cX0_lookOverTale 2 = .ok (.iconst 1, 1) := by decide +kernel
theorem dX0_lookOverTale_3 : decode cX0_lookOverTale 3 = .ok (.iadd, 1) := by decide +kernel
theorem dX0_lookOverTale_4 : decode cX0_lookOverTale 4 = .ok (.invokevirtual 37, 3) := by decide +kernel
theorem dX0_lookOverTale_7 : decode cX0_lookOverTale 7 = .ok (.aload_n 0, 1) := by decide +kernel
theorem dX0_lookOverTale_8 : decode cX0_lookOverTale 8 = .ok (.iload_n 1, 1) := by decide +kernel
theorem dX0_lookOverTale_9 : decode cX0_lookOverTale 9 = .ok (.invokevirtual 41, 3) := by decide +kernel
theorem dX0_lookOverTale_12 : decode cX0_lookOverTale 12 = .ok (.lmul, 1) := by decide +kernel
theorem dX0_lookOverTale_13 : decode cX0_lookOverTale 13 = .ok (.aload_n 0, 1) := by decide +kernel
theorem dX0_lookOverTale_14 : decode cX0_lookOverTale 14 = .ok (.iload_n 1, 1) := by decide +kernel
theorem dX0_lookOverTale_15 : decode cX0_lookOverTale 15 = .ok (.invokevirtual 44, 3) := by decide +kernel
theorem dX0_lookOverTale_18 : decode cX0_lookOverTale 18 = .ok (.aload_n 0, 1) := by decide +kernel
theorem dX0_lookOverTale_19 : decode cX0_lookOverTale 19 = .ok (.iload_n 1, 1) := by decide +kernel
theorem dX0_lookOverTale_20 : decode cX0_lookOverTale 20 = .ok (.iconst 1, 1) := by decide +kernel
theorem dX0_lookOverTale_21 : decode cX0_lookOverTale 21 = .ok (.iadd, 1) := by decide +kernel
theorem dX0_lookOverTale_22 : decode cX0_lookOverTale 22 = .ok (.invokevirtual 47, 3) := by decide +kernel
theorem dX0_lookOverTale_25 : decode cX0_lookOverTale 25 = .ok (.lmul, 1) := by decide +kernel
theorem dX0_lookOverTale_26 : decode cX0_lookOverTale 26 = .ok (.lsub, 1) := by decide +kernel
theorem dX0_lookOverTale_27 : decode cX0_lookOverTale 27 = .ok (.lreturn, 1) := by decide +kernel
set_option maxRecDepth 20000 in
theorem ggX0_lookOverTale_X0_lookUpper : GoodIn wsX0_lookOverTale wsX0_lookUpper := goodIn_r _ [5, 6, 7, 22, 23, 24, 25, 26] (by decide +kernel) (by decide +kernel)
set_option maxRecDepth 20000 in
theorem gX0_lookOverTale_X0_lookUpper : GoodIn wsX0_lookOverTale (wsV RX0 37 RX0 yX0_lookUpper wsX0_lookUpper) := goodIn_app (goodIn_of _ (by decide +kernel)) ggX0_lookOverTale_X0_lookUpper
theorem wX0_lookOverTale_37 : CWV mX0_lookOverTale 37 mX0_lookUpper 1 := ⟨gX0_lookOverTale_X0_lookUpper, ⟨_, rfl⟩, rfl, by decide +kernel, by decide +kernel, by decide +kernel⟩
set_option maxRecDepth 20000 in
theorem ggX0_lookOverTale_X0_taleLower : GoodIn wsX0_lookOverTale wsX0_taleLower := goodIn_r _ [11, 12, 22, 23, 24, 25, 26] (by decide +kernel) (by decide +kernel)
set_option maxRecDepth 20000 in
theorem gX0_lookOverTale_X0_taleLower : GoodIn wsX0_lookOverTale (wsV RX0 41 RX0 yX0_taleLower wsX0_taleLower) := goodIn_app (goodIn_of _ (by decide +kernel)) ggX0_lookOverTale_X0_taleLower
theorem wX0_lookOverTale_41 : CWV mX0_lookOverTale 41 mX0_taleLower 1 := ⟨gX0_lookOverTale_X0_taleLower, ⟨_, rfl⟩, rfl, by decide +kernel, by decide +kernel, by decide +kernel⟩
set_option maxRecDepth 20000 in
theorem ggX0_lookOverTale_X0_taleUpper : GoodIn wsX0_lookOverTale wsX0_taleUpper := goodIn_r _ [16, 17, 12, 22, 23, 24, 25, 26] (by decide +kernel) (by decide +kernel)
set_option maxRecDepth 20000 in
theorem gX0_lookOverTale_X0_taleUpper : GoodIn wsX0_lookOverTale (wsV RX0 44 RX0 yX0_taleUpper wsX0_taleUpper) := goodIn_app (goodIn_of _ (by decide +kernel)) ggX0_lookOverTale_X0_taleUpper
theorem wX0_lookOverTale_44 : CWV mX0_lookOverTale 44 mX0_taleUpper 1 := ⟨gX0_lookOverTale_X0_taleUpper, ⟨_, rfl⟩, rfl, by decide +kernel, by decide +kernel, by decide +kernel⟩
set_option maxRecDepth 20000 in
theorem ggX0_lookOverTale_X0_lookLower : GoodIn wsX0_lookOverTale wsX0_lookLower := goodIn_r _ [21] (by decide +kernel) (by decide +kernel)
set_option maxRecDepth 20000 in
theorem gX0_lookOverTale_X0_lookLower : GoodIn wsX0_lookOverTale (wsV RX0 47 RX0 yX0_lookLower wsX0_lookLower) := goodIn_app (goodIn_of _ (by decide +kernel)) ggX0_lookOverTale_X0_lookLower
theorem wX0_lookOverTale_47 : CWV mX0_lookOverTale 47 mX0_lookLower 1 := ⟨gX0_lookOverTale_X0_lookLower, ⟨_, rfl⟩, rfl, by decide +kernel, by decide +kernel, by decide +kernel⟩
abbrev mX0_goesUp : mT := (yX0_goesUp, RX0, cX0_goesUp, 2, (some .boolean), wsX0_goesUp)
abbrev rX0_goesUp : Room := { frames := 2, cells := 0, slots := 0, locals := 42 }
theorem dX0_goesUp_0 : decode cX0_goesUp 0 = .ok (.iload_n 1, 1) := by decide +kernel
theorem dX0_goesUp_1 : decode cX0_goesUp 1 = .ok (.aload_n 0, 1) := by decide +kernel
theorem dX0_goesUp_2 : decode cX0_goesUp 2 = .ok (.getfield 21, 3) := by decide +kernel
theorem dX0_goesUp_5 : decode cX0_goesUp 5 = .ok (.if_icmp .ge 17, 3) := by decide +kernel
theorem dX0_goesUp_8 : decode cX0_goesUp 8 = .ok (.aload_n 0, 1) := by decide +kernel
theorem dX0_goesUp_9 : decode cX0_goesUp 9 = .ok (.iload_n 1, 1) := by decide +kernel
theorem dX0_goesUp_10 : decode cX0_goesUp 10 = .ok (.invokevirtual 50, 3) := by decide +kernel
theorem dX0_goesUp_13 : decode cX0_goesUp 13 = .ok (.lconst 0, 1) := by decide +kernel
theorem dX0_goesUp_14 : decode cX0_goesUp 14 = .ok (.lcmp, 1) := by decide +kernel
theorem dX0_goesUp_15 : decode cX0_goesUp 15 = .ok (.ifCond .le 7, 3) := by decide +kernel
theorem dX0_goesUp_18 : decode cX0_goesUp 18 = .ok (.iconst 1, 1) := by decide +kernel
theorem dX0_goesUp_19 : decode cX0_goesUp 19 = .ok (.goto 4, 3) := by decide +kernel
theorem dX0_goesUp_22 : decode cX0_goesUp 22 = .ok (.iconst 0, 1) := by decide +kernel
theorem dX0_goesUp_23 : decode cX0_goesUp 23 = .ok (.ireturn, 1) := by decide +kernel
theorem iX0_goesUp_0 : ∀ w ∈ wsX00, w ∈ wsX0_goesUp := fun w h => List.mem_cons_of_mem _ (List.mem_append_right _ h)
theorem fX0_goesUp_21 : FL mX0_goesUp 21 0 3 := ⟨_, _, _, rfl, by decide, iX0_goesUp_0, by decide +kernel⟩
set_option maxRecDepth 20000 in
theorem ggX0_goesUp_X0_lookOverTale : GoodIn wsX0_goesUp wsX0_lookOverTale := goodIn_r _ [6, 7, 8, 9, 5, 10, 11, 12, 13, 14, 15, 16, 1, 17, 18, 19, 20, 21, 22, 23, 24, 25, 26, 27, 28, 29, 30] (by decide +kernel) (by decide +kernel)
set_option maxRecDepth 20000 in
theorem gX0_goesUp_X0_lookOverTale : GoodIn wsX0_goesUp (wsV RX0 50 RX0 yX0_lookOverTale wsX0_lookOverTale) := goodIn_app (goodIn_of _ (by decide +kernel)) ggX0_goesUp_X0_lookOverTale
theorem wX0_goesUp_50 : CWV mX0_goesUp 50 mX0_lookOverTale 1 := ⟨gX0_goesUp_X0_lookOverTale, ⟨_, rfl⟩, rfl, by decide +kernel, by decide +kernel, by decide +kernel⟩
abbrev mX0_goesDown : mT := (yX0_goesDown, RX0, cX0_goesDown, 2, (some .boolean), wsX0_goesDown)
abbrev rX0_goesDown : Room := { frames := 2, cells := 0, slots := 0, locals := 42 }
theorem dX0_goesDown_0 : decode cX0_goesDown 0 = .ok (.iload_n 1, 1) := by decide +kernel
theorem dX0_goesDown_1 : decode cX0_goesDown 1 = .ok (.ifCond .le 19, 3) := by decide +kernel
theorem dX0_goesDown_4 : decode cX0_goesDown 4 = .ok (.aload_n 0, 1) := by decide +kernel
theorem dX0_goesDown_5 : decode cX0_goesDown 5 = .ok (.iload_n 1, 1) := by decide +kernel
theorem dX0_goesDown_6 : decode cX0_goesDown 6 = .ok (.iconst 1, 1) := by decide +kernel
theorem dX0_goesDown_7 : decode cX0_goesDown 7 = .ok (.isub, 1) := by decide +kernel
theorem dX0_goesDown_8 : decode cX0_goesDown 8 = .ok (.invokevirtual 50, 3) := by decide +kernel
theorem dX0_goesDown_11 : decode cX0_goesDown 11 = .ok (.lconst 0, 1) := by decide +kernel
theorem dX0_goesDown_12 : decode cX0_goesDown 12 = .ok (.lcmp, 1) := by decide +kernel
theorem dX0_goesDown_13 : decode cX0_goesDown 13 = .ok (.ifCond .ge 7, 3) := by decide +kernel
theorem dX0_goesDown_16 : decode cX0_goesDown 16 = .ok (.iconst 1, 1) := by decide +kernel
theorem dX0_goesDown_17 : decode cX0_goesDown 17 = .ok (.goto 4, 3) := by decide +kernel
theorem dX0_goesDown_20 : decode cX0_goesDown 20 = .ok (.iconst 0, 1) := by decide +kernel
theorem dX0_goesDown_21 : decode cX0_goesDown 21 = .ok (.ireturn, 1) := by decide +kernel
set_option maxRecDepth 20000 in
theorem ggX0_goesDown_X0_lookOverTale : GoodIn wsX0_goesDown wsX0_lookOverTale := goodIn_r _ [5, 6, 7, 8, 4, 9, 10, 11, 12, 13, 14, 15, 16, 17, 18, 19, 20, 21, 22, 23, 24, 25, 26, 27, 28, 29, 30] (by decide +kernel) (by decide +kernel)
set_option maxRecDepth 20000 in
theorem gX0_goesDown_X0_lookOverTale : GoodIn wsX0_goesDown (wsV RX0 50 RX0 yX0_lookOverTale wsX0_lookOverTale) := goodIn_app (goodIn_of _ (by decide +kernel)) ggX0_goesDown_X0_lookOverTale
theorem wX0_goesDown_50 : CWV mX0_goesDown 50 mX0_lookOverTale 1 := ⟨gX0_goesDown_X0_lookOverTale, ⟨_, rfl⟩, rfl, by decide +kernel, by decide +kernel, by decide +kernel⟩
abbrev mX0_allThatRest : mT := (yX0_allThatRest, RX0, cX0_allThatRest, 3, (some .int), wsX0_allThatRest)
abbrev rX0_allThatRest : Room := { frames := 3, cells := 0, slots := 0, locals := 63 }
theorem dX0_allThatRest_0 : decode cX0_allThatRest 0 = .ok (.iconst 0, 1) := by decide +kernel
theorem dX0_allThatRest_1 : decode cX0_allThatRest 1 = .ok (.istore_n 1, 1) := by decide +kernel
theorem dX0_allThatRest_2 : decode cX0_allThatRest 2 = .ok (.iconst 0, 1) := by decide +kernel
theorem dX0_allThatRest_3 : decode cX0_allThatRest 3 = .ok (.istore_n 2, 1) := by decide +kernel
theorem dX0_allThatRest_4 : decode cX0_allThatRest 4 = .ok (.iload_n 2, 1) := by decide +kernel
theorem dX0_allThatRest_5 : decode cX0_allThatRest 5 = .ok (.aload_n 0, 1) := by decide +kernel
theorem dX0_allThatRest_6 : decode cX0_allThatRest 6 = .ok (.getfield 21, 3) := by decide +kernel
theorem dX0_allThatRest_9 : decode cX0_allThatRest 9 = .ok (.if_icmp .gt 31, 3) := by decide +kernel
theorem dX0_allThatRest_12 : decode cX0_allThatRest 12 = .ok (.aload_n 0, 1) := by decide +kernel
theorem dX0_allThatRest_13 : decode cX0_allThatRest 13 = .ok (.iload_n 2, 1) := by decide +kernel
theorem dX0_allThatRest_14 : decode cX0_allThatRest 14 = .ok (.invokevirtual 53, 3) := by decide +kernel
theorem dX0_allThatRest_17 : decode cX0_allThatRest 17 = .ok (.ifCond .ne 17, 3) := by decide +kernel
theorem dX0_allThatRest_20 : decode cX0_allThatRest 20 = .ok (.aload_n 0, 1) := by decide +kernel
theorem dX0_allThatRest_21 : decode cX0_allThatRest 21 = .ok (.iload_n 2, 1) := by decide +kernel
theorem dX0_allThatRest_22 : decode cX0_allThatRest 22 = .ok (.invokevirtual 57, 3) := by decide +kernel
theorem dX0_allThatRest_25 : decode cX0_allThatRest 25 = .ok (.ifCond .ne 9, 3) := by decide +kernel
theorem dX0_allThatRest_28 : decode cX0_allThatRest 28 = .ok (.iload_n 1, 1) := by decide +kernel
theorem dX0_allThatRest_29 : decode cX0_allThatRest 29 = .ok (.iconst 1, 1) := by decide +kernel
theorem dX0_allThatRest_30 : decode cX0_allThatRest 30 = .ok (.iload_n 2, 1) := by decide +kernel
theorem dX0_allThatRest_31 : decode cX0_allThatRest 31 = .ok (.ishl, 1) := by decide +kernel
theorem dX0_allThatRest_32 : decode cX0_allThatRest 32 = .ok (.ior, 1) := by decide +kernel
theorem dX0_allThatRest_33 : decode cX0_allThatRest 33 = .ok (.istore_n 1, 1) := by decide +kernel
theorem dX0_allThatRest_34 : decode cX0_allThatRest 34 = .ok (.iinc 2 1, 3) := by decide +kernel
theorem dX0_allThatRest_37 : decode cX0_allThatRest 37 = .ok (.goto (-33), 3) := by decide +kernel
theorem dX0_allThatRest_40 : decode cX0_allThatRest 40 = .ok (.iload_n 1, 1) := by decide +kernel
theorem dX0_allThatRest_41 : decode cX0_allThatRest 41 = .ok (.ireturn, 1) := by decide +kernel
theorem iX0_allThatRest_0 : ∀ w ∈ wsX00, w ∈ wsX0_allThatRest := fun w h => List.mem_cons_of_mem _ (List.mem_append_right _ h)
theorem fX0_allThatRest_21 : FL mX0_allThatRest 21 0 3 := ⟨_, _, _, rfl, by decide, iX0_allThatRest_0, by decide +kernel⟩
set_option maxRecDepth 20000 in
theorem ggX0_allThatRest_X0_goesUp : GoodIn wsX0_allThatRest wsX0_goesUp := goodIn_r _ [6, 1, 7, 8, 9, 5, 10, 11, 12, 13, 14, 15, 16, 17, 18, 19, 20, 21, 22, 23, 24, 25, 26, 27, 28, 29, 34, 35, 36, 37, 38] (by decide +kernel) (by decide +kernel)
set_option maxRecDepth 20000 in
theorem gX0_allThatRest_X0_goesUp : GoodIn wsX0_allThatRest (wsV RX0 53 RX0 yX0_goesUp wsX0_goesUp) := goodIn_app (goodIn_of _ (by decide +kernel)) ggX0_allThatRest_X0_goesUp
theorem wX0_allThatRest_53 : CWV mX0_allThatRest 53 mX0_goesUp 1 := ⟨gX0_allThatRest_X0_goesUp, ⟨_, rfl⟩, rfl, by decide +kernel, by decide +kernel, by decide +kernel⟩
set_option maxRecDepth 20000 in
theorem ggX0_allThatRest_X0_goesDown : GoodIn wsX0_allThatRest wsX0_goesDown := goodIn_r _ [33, 7, 8, 9, 5, 10, 11, 12, 13, 14, 15, 16, 17, 18, 19, 20, 1, 21, 22, 23, 24, 25, 26, 27, 28, 29, 34, 35, 36, 37, 38] (by decide +kernel) (by decide +kernel)
set_option maxRecDepth 20000 in
theorem gX0_allThatRest_X0_goesDown : GoodIn wsX0_allThatRest (wsV RX0 57 RX0 yX0_goesDown wsX0_goesDown) := goodIn_app (goodIn_of _ (by decide +kernel)) ggX0_allThatRest_X0_goesDown
theorem wX0_allThatRest_57 : CWV mX0_allThatRest 57 mX0_goesDown 1 := ⟨gX0_allThatRest_X0_goesDown, ⟨_, rfl⟩, rfl, by decide +kernel, by decide +kernel, by decide +kernel⟩
abbrev mX0_endFrom : mT := (yX0_endFrom, RX0, cX0_endFrom, 4, (some .int), wsX0_endFrom)
abbrev rX0_endFrom : Room := { frames := 3, cells := 0, slots := 0, locals := 63 }
theorem dX0_endFrom_0 : decode cX0_endFrom 0 = .ok (.iload_n 1, 1) := by decide +kernel
theorem dX0_endFrom_1 : decode cX0_endFrom 1 = .ok (.istore_n 2, 1) := by decide +kernel
theorem dX0_endFrom_2 : decode cX0_endFrom 2 = .ok (.iconst 0, 1) := by decide +kernel
theorem dX0_endFrom_3 : decode cX0_endFrom 3 = .ok (.istore_n 3, 1) := by decide +kernel
theorem dX0_endFrom_4 : decode cX0_endFrom 4 = .ok (.iload_n 3, 1) := by decide +kernel
theorem dX0_endFrom_5 : decode cX0_endFrom 5 = .ok (.aload_n 0, 1) := by decide +kernel
theorem dX0_endFrom_6 : decode cX0_endFrom 6 = .ok (.getfield 21, 3) := by decide +kernel
theorem dX0_endFrom_9 : decode cX0_endFrom 9 = .ok (.if_icmp .ge 34, 3) := by decide +kernel
theorem dX0_endFrom_12 : decode cX0_endFrom 12 = .ok (.aload_n 0, 1) := by decide +kernel
theorem dX0_endFrom_13 : decode cX0_endFrom 13 = .ok (.iload_n 2, 1) := by decide +kernel
theorem dX0_endFrom_14 : decode cX0_endFrom 14 = .ok (.invokevirtual 53, 3) := by decide +kernel
theorem dX0_endFrom_17 : decode cX0_endFrom 17 = .ok (.ifCond .eq 9, 3) := by decide +kernel
theorem dX0_endFrom_20 : decode cX0_endFrom 20 = .ok (.iinc 2 1, 3) := by decide +kernel
theorem dX0_endFrom_23 : decode cX0_endFrom 23 = .ok (.goto 14, 3) := by decide +kernel
theorem dX0_endFrom_26 : decode cX0_endFrom 26 = .ok (.aload_n 0, 1) := by decide +kernel
theorem dX0_endFrom_27 : decode cX0_endFrom 27 = .ok (.iload_n 2, 1) := by decide +kernel
theorem dX0_endFrom_28 : decode cX0_endFrom 28 = .ok (.invokevirtual 57, 3) := by decide +kernel
theorem dX0_endFrom_31 : decode cX0_endFrom 31 = .ok (.ifCond .eq 6, 3) := by decide +kernel
theorem dX0_endFrom_34 : decode cX0_endFrom 34 = .ok (.iinc 2 (-1), 3) := by decide +kernel
theorem dX0_endFrom_37 : decode cX0_endFrom 37 = .ok (.iinc 3 1, 3) := by decide +kernel
theorem dX0_endFrom_40 : decode cX0_endFrom 40 = .ok (.goto (-36), 3) := by decide +kernel
theorem dX0_endFrom_43 : decode cX0_endFrom 43 = .ok (.iload_n 2, 1) := by decide +kernel
theorem dX0_endFrom_44 : decode cX0_endFrom 44 = .ok (.ireturn, 1) := by decide +kernel
theorem iX0_endFrom_0 : ∀ w ∈ wsX00, w ∈ wsX0_endFrom := fun w h => List.mem_cons_of_mem _ (List.mem_append_right _ h)
theorem fX0_endFrom_21 : FL mX0_endFrom 21 0 3 := ⟨_, _, _, rfl, by decide, iX0_endFrom_0, by decide +kernel⟩
set_option maxRecDepth 20000 in
theorem ggX0_endFrom_X0_goesUp : GoodIn wsX0_endFrom wsX0_goesUp := goodIn_r _ [6, 1, 7, 8, 9, 5, 10, 11, 12, 13, 14, 15, 16, 17, 18, 19, 20, 21, 22, 23, 24, 25, 26, 27, 28, 29, 34, 35, 36, 37, 38] (by decide +kernel) (by decide +kernel)
set_option maxRecDepth 20000 in
theorem gX0_endFrom_X0_goesUp : GoodIn wsX0_endFrom (wsV RX0 53 RX0 yX0_goesUp wsX0_goesUp) := goodIn_app (goodIn_of _ (by decide +kernel)) ggX0_endFrom_X0_goesUp
theorem wX0_endFrom_53 : CWV mX0_endFrom 53 mX0_goesUp 1 := ⟨gX0_endFrom_X0_goesUp, ⟨_, rfl⟩, rfl, by decide +kernel, by decide +kernel, by decide +kernel⟩
set_option maxRecDepth 20000 in
theorem ggX0_endFrom_X0_goesDown : GoodIn wsX0_endFrom wsX0_goesDown := goodIn_r _ [33, 7, 8, 9, 5, 10, 11, 12, 13, 14, 15, 16, 17, 18, 19, 20, 1, 21, 22, 23, 24, 25, 26, 27, 28, 29, 34, 35, 36, 37, 38] (by decide +kernel) (by decide +kernel)
set_option maxRecDepth 20000 in
theorem gX0_endFrom_X0_goesDown : GoodIn wsX0_endFrom (wsV RX0 57 RX0 yX0_goesDown wsX0_goesDown) := goodIn_app (goodIn_of _ (by decide +kernel)) ggX0_endFrom_X0_goesDown
theorem wX0_endFrom_57 : CWV mX0_endFrom 57 mX0_goesDown 1 := ⟨gX0_endFrom_X0_goesDown, ⟨_, rfl⟩, rfl, by decide +kernel, by decide +kernel, by decide +kernel⟩
abbrev mX0_leastThatEndsInAll : mT := (yX0_leastThatEndsInAll, RX0, cX0_leastThatEndsInAll, 2, (some .int), wsX0_leastThatEndsInAll)
abbrev rX0_leastThatEndsInAll : Room := { frames := 4, cells := 0, slots := 0, locals := 86 }
theorem dX0_leastThatEndsInAll_0 : decode cX0_leastThatEndsInAll 0 = .ok (.iconst 0, 1) := by decide +kernel
theorem dX0_leastThatEndsInAll_1 : decode cX0_leastThatEndsInAll 1 = .ok (.istore_n 1, 1) := by decide +kernel
theorem dX0_leastThatEndsInAll_2 : decode cX0_leastThatEndsInAll 2 = .ok (.iload_n 1, 1) := by decide +kernel
theorem dX0_leastThatEndsInAll_3 : decode cX0_leastThatEndsInAll 3 = .ok (.aload_n 0, 1) := by decide +kernel
theorem dX0_leastThatEndsInAll_4 : decode cX0_leastThatEndsInAll 4 = .ok (.getfield 21, 3) := by decide +kernel
theorem dX0_leastThatEndsInAll_7 : decode cX0_leastThatEndsInAll 7 = .ok (.if_icmp .gt 23, 3) := by decide +kernel
theorem dX0_leastThatEndsInAll_10 : decode cX0_leastThatEndsInAll 10 = .ok (.aload_n 0, 1) := by decide +kernel
theorem dX0_leastThatEndsInAll_11 : decode cX0_leastThatEndsInAll 11 = .ok (.iload_n 1, 1) := by decide +kernel
theorem dX0_leastThatEndsInAll_12 : decode cX0_leastThatEndsInAll 12 = .ok (.invokevirtual 60, 3) := by decide +kernel
theorem dX0_leastThatEndsInAll_15 : decode cX0_leastThatEndsInAll 15 = .ok (.aload_n 0, 1) := by decide +kernel
theorem dX0_leastThatEndsInAll_16 : decode cX0_leastThatEndsInAll 16 = .ok (.getfield 21, 3) := by decide +kernel
theorem dX0_leastThatEndsInAll_19 : decode cX0_leastThatEndsInAll 19 = .ok (.if_icmp .ne 5, 3) := by decide +kernel
theorem dX0_leastThatEndsInAll_22 : decode cX0_leastThatEndsInAll 22 = .ok (.iload_n 1, 1) := by decide +kernel
theorem dX0_leastThatEndsInAll_23 : decode cX0_leastThatEndsInAll 23 = .ok (.ireturn, 1) := by decide +kernel
theorem dX0_leastThatEndsInAll_24 : decode cX0_leastThatEndsInAll 24 = .ok (.iinc 1 1, 3) := by decide +kernel
theorem dX0_leastThatEndsInAll_27 : decode cX0_leastThatEndsInAll 27 = .ok (.goto (-25), 3) := by decide +kernel
theorem dX0_leastThatEndsInAll_30 : decode cX0_leastThatEndsInAll 30 = .ok (.bipush (-9), 2) := by decide +kernel
theorem dX0_leastThatEndsInAll_32 : decode cX0_leastThatEndsInAll 32 = .ok (.ireturn, 1) := by decide +kernel
theorem iX0_leastThatEndsInAll_0 : ∀ w ∈ wsX00, w ∈ wsX0_leastThatEndsInAll := fun w h => List.mem_cons_of_mem _ (List.mem_append_right _ h)
theorem fX0_leastThatEndsInAll_21 : FL mX0_leastThatEndsInAll 21 0 3 := ⟨_, _, _, rfl, by decide, iX0_leastThatEndsInAll_0, by decide +kernel⟩
set_option maxRecDepth 20000 in
theorem ggX0_leastThatEndsInAll_X0_endFrom : GoodIn wsX0_leastThatEndsInAll wsX0_endFrom := goodIn_r _ [6, 1, 7, 8, 9, 5, 10, 11, 12, 13, 14, 15, 16, 17, 18, 19, 20, 21, 22, 23, 24, 25, 26, 27, 28, 29, 30, 31, 32, 33, 34, 35, 36, 37, 38, 39, 40, 41, 42] (by decide +kernel) (by decide +kernel)
set_option maxRecDepth 20000 in
theorem gX0_leastThatEndsInAll_X0_endFrom : GoodIn wsX0_leastThatEndsInAll (wsV RX0 60 RX0 yX0_endFrom wsX0_endFrom) := goodIn_app (goodIn_of _ (by decide +kernel)) ggX0_leastThatEndsInAll_X0_endFrom
theorem wX0_leastThatEndsInAll_60 : CWV mX0_leastThatEndsInAll 60 mX0_endFrom 1 := ⟨gX0_leastThatEndsInAll_X0_endFrom, ⟨_, rfl⟩, rfl, by decide +kernel, by decide +kernel, by decide +kernel⟩
abbrev mX0_weightsOf : mT := (yX0_weightsOf, RX0, cX0_weightsOf, 8, (some .int), wsX0_weightsOf)
abbrev rX0_weightsOf : Room := { frames := 1, cells := 0, slots := 0, locals := 40 }
theorem dX0_weightsOf_0 : decode cX0_weightsOf 0 = .ok (.iload_n 1, 1) := by decide +kernel
theorem dX0_weightsOf_1 : decode cX0_weightsOf 1 = .ok (.istore 4, 2) := by decide +kernel
theorem dX0_weightsOf_3 : decode cX0_weightsOf 3 = .ok (.iconst 0, 1) := by decide +kernel
theorem dX0_weightsOf_4 : decode cX0_weightsOf 4 = .ok (.istore 5, 2) := by decide +kernel
theorem dX0_weightsOf_6 : decode cX0_weightsOf 6 = .ok (.iconst 0, 1) := by decide +kernel
theorem dX0_weightsOf_7 : decode cX0_weightsOf 7 = .ok (.istore 6, 2) := by decide +kernel
theorem dX0_weightsOf_9 : decode cX0_weightsOf 9 = .ok (.iload 6, 2) := by decide +kernel
theorem dX0_weightsOf_11 : decode cX0_weightsOf 11 = .ok (.bipush 10, 2) := by decide +kernel
theorem dX0_weightsOf_13 : decode cX0_weightsOf 13 = .ok (.if_icmp .ge 58, 3) := by decide +kernel
theorem dX0_weightsOf_16 : decode cX0_weightsOf 16 = .ok (.iload_n 2, 1) := by decide +kernel
theorem dX0_weightsOf_17 : decode cX0_weightsOf 17 = .ok (.iload_n 3, 1) := by decide +kernel
theorem dX0_weightsOf_18 : decode cX0_weightsOf 18 = .ok (.iload 6, 2) := by decide +kernel
theorem dX0_weightsOf_20 : decode cX0_weightsOf 20 = .ok (.imul, 1) := by decide +kernel
theorem dX0_weightsOf_21 : decode cX0_weightsOf 21 = .ok (.iadd, 1) := by decide +kernel
theorem dX0_weightsOf_22 : decode cX0_weightsOf 22 = .ok (.istore 7, 2) := by decide +kernel
theorem dX0_weightsOf_24 : decode cX0_weightsOf 24 = .ok (.iload 4, 2) := by decide +kernel
theorem dX0_weightsOf_26 : decode cX0_weightsOf 26 = .ok (.ifCond .le 39, 3) := by decide +kernel
theorem dX0_weightsOf_29 : decode cX0_weightsOf 29 = .ok (.aload_n 0, 1) := by decide +kernel
theorem dX0_weightsOf_30 : decode cX0_weightsOf 30 = .ok (.getfield 9, 3) := by decide +kernel
theorem dX0_weightsOf_33 : decode cX0_weightsOf 33 = .ok (.iload 7, 2) := by decide +kernel
theorem dX0_weightsOf_35 : decode cX0_weightsOf 35 = .ok (.iaload, 1) := by decide +kernel
theorem dX0_weightsOf_36 : decode cX0_weightsOf 36 = .ok (.ifCond .le 29, 3) := by decide +kernel
theorem dX0_weightsOf_39 : decode cX0_weightsOf 39 = .ok (.iload 5, 2) := by decide +kernel
theorem dX0_weightsOf_41 : decode cX0_weightsOf 41 = .ok (.iconst 1, 1) := by decide +kernel
theorem dX0_weightsOf_42 : decode cX0_weightsOf 42 = .ok (.iload 7, 2) := by decide +kernel
theorem dX0_weightsOf_44 : decode cX0_weightsOf 44 = .ok (.ishl, 1) := by decide +kernel
theorem dX0_weightsOf_45 : decode cX0_weightsOf 45 = .ok (.ior, 1) := by decide +kernel
theorem dX0_weightsOf_46 : decode cX0_weightsOf 46 = .ok (.istore 5, 2) := by decide +kernel
theorem dX0_weightsOf_48 : decode cX0_weightsOf 48 = .ok (.iload 4, 2) := by decide +kernel
theorem dX0_weightsOf_50 : decode cX0_weightsOf 50 = .ok (.iload 4, 2) := by decide +kernel
theorem dX0_weightsOf_52 : decode cX0_weightsOf 52 = .ok (.aload_n 0, 1) := by decide +kernel
theorem dX0_weightsOf_53 : decode cX0_weightsOf 53 = .ok (.getfield 9, 3) := by decide +kernel
theorem dX0_weightsOf_56 : decode cX0_weightsOf 56 = .ok (.iload 7, 2) := by decide +kernel
theorem dX0_weightsOf_58 : decode cX0_weightsOf 58 = .ok (.iaload, 1) := by decide +kernel
theorem dX0_weightsOf_59 : decode cX0_weightsOf 59 = .ok (.invokestatic 70, 3) := by decide +kernel
theorem dX0_weightsOf_62 : decode cX0_weightsOf 62 = .ok (.isub, 1) := by decide +kernel
theorem dX0_weightsOf_63 : decode cX0_weightsOf 63 = .ok (.istore 4, 2) := by decide +kernel
theorem dX0_weightsOf_65 : decode cX0_weightsOf 65 = .ok (.iinc 6 1, 3) := by decide +kernel
theorem dX0_weightsOf_68 : decode cX0_weightsOf 68 = .ok (.goto (-59), 3) := by decide +kernel
theorem dX0_weightsOf_71 : decode cX0_weightsOf 71 = .ok (.iload 5, 2) := by decide +kernel
theorem dX0_weightsOf_73 : decode cX0_weightsOf 73 = .ok (.ireturn, 1) := by decide +kernel
theorem iX0_weightsOf_0 : ∀ w ∈ wsX00, w ∈ wsX0_weightsOf := fun w h => List.mem_cons_of_mem _ (List.mem_append_right _ h)
theorem fX0_weightsOf_9 : FL mX0_weightsOf 9 0 0 := ⟨_, _, _, rfl, by decide, iX0_weightsOf_0, by decide +kernel⟩
abbrev mX0_weightsLeftOut : mT := (yX0_weightsLeftOut, RX0, cX0_weightsLeftOut, 3, (some .int), wsX0_weightsLeftOut)
abbrev rX0_weightsLeftOut : Room := { frames := 2, cells := 0, slots := 0, locals := 67 }
theorem dX0_weightsLeftOut_0 : decode cX0_weightsLeftOut 0 = .ok (.aload_n 0, 1) := by decide +kernel
theorem dX0_weightsLeftOut_1 : decode cX0_weightsLeftOut 1 = .ok (.iload_n 1, 1) := by decide +kernel
theorem dX0_weightsLeftOut_2 : decode cX0_weightsLeftOut 2 = .ok (.iconst 0, 1) := by decide +kernel
theorem dX0_weightsLeftOut_3 : decode cX0_weightsLeftOut 3 = .ok (.iconst 1, 1) := by decide +kernel
theorem dX0_weightsLeftOut_4 : decode cX0_weightsLeftOut 4 = .ok (.invokevirtual 63, 3) := by decide +kernel
theorem dX0_weightsLeftOut_7 : decode cX0_weightsLeftOut 7 = .ok (.aload_n 0, 1) := by decide +kernel
theorem dX0_weightsLeftOut_8 : decode cX0_weightsLeftOut 8 = .ok (.aload_n 0, 1) := by decide +kernel
theorem dX0_weightsLeftOut_9 : decode cX0_weightsLeftOut 9 = .ok (.getfield 21, 3) := by decide +kernel
theorem dX0_weightsLeftOut_12 : decode cX0_weightsLeftOut 12 = .ok (.iload_n 1, 1) := by decide +kernel
theorem dX0_weightsLeftOut_13 : decode cX0_weightsLeftOut 13 = .ok (.isub, 1) := by decide +kernel
theorem dX0_weightsLeftOut_14 : decode cX0_weightsLeftOut 14 = .ok (.bipush 9, 2) := by decide +kernel
theorem dX0_weightsLeftOut_16 : decode cX0_weightsLeftOut 16 = .ok (.iconst (-1), 1) := by decide +kernel
theorem dX0_weightsLeftOut_17 : decode cX0_weightsLeftOut 17 = .ok (.invokevirtual 63, 3) := by decide +kernel
theorem dX0_weightsLeftOut_20 : decode cX0_weightsLeftOut 20 = .ok (.ior, 1) := by decide +kernel
theorem dX0_weightsLeftOut_21 : decode cX0_weightsLeftOut 21 = .ok (.istore_n 2, 1) := by decide +kernel
theorem dX0_weightsLeftOut_22 : decode cX0_weightsLeftOut 22 = .ok (.aload_n 0, 1) := by decide +kernel
theorem dX0_weightsLeftOut_23 : decode cX0_weightsLeftOut 23 = .ok (.ldc 69, 2) := by decide +kernel
theorem dX0_weightsLeftOut_25 : decode cX0_weightsLeftOut 25 = .ok (.iconst 0, 1) := by decide +kernel
theorem dX0_weightsLeftOut_26 : decode cX0_weightsLeftOut 26 = .ok (.iconst 1, 1) := by decide +kernel
theorem dX0_weightsLeftOut_27 : decode cX0_weightsLeftOut 27 = .ok (.invokevirtual 63, 3) := by decide +kernel
theorem dX0_weightsLeftOut_30 : decode cX0_weightsLeftOut 30 = .ok (.iload_n 2, 1) := by decide +kernel
theorem dX0_weightsLeftOut_31 : decode cX0_weightsLeftOut 31 = .ok (.iconst (-1), 1) := by decide +kernel
theorem dX0_weightsLeftOut_32 : decode cX0_weightsLeftOut 32 = .ok (.ixor, 1) := by decide +kernel
theorem dX0_weightsLeftOut_33 : decode cX0_weightsLeftOut 33 = .ok (.iand, 1) := by decide +kernel
theorem dX0_weightsLeftOut_34 : decode cX0_weightsLeftOut 34 = .ok (.ireturn, 1) := by decide +kernel
theorem iX0_weightsLeftOut_0 : ∀ w ∈ wsX00, w ∈ wsX0_weightsLeftOut := fun w h => List.mem_cons_of_mem _ (List.mem_append_right _ h)
theorem fX0_weightsLeftOut_21 : FL mX0_weightsLeftOut 21 0 3 := ⟨_, _, _, rfl, by decide, iX0_weightsLeftOut_0, by decide +kernel⟩
set_option maxRecDepth 20000 in
theorem ggX0_weightsLeftOut_X0_weightsOf : GoodIn wsX0_weightsLeftOut wsX0_weightsOf := goodIn_r _ [7, 8, 9, 10, 11, 12, 13, 14, 15, 16, 17] (by decide +kernel) (by decide +kernel)
set_option maxRecDepth 20000 in
theorem gX0_weightsLeftOut_X0_weightsOf : GoodIn wsX0_weightsLeftOut (wsV RX0 63 RX0 yX0_weightsOf wsX0_weightsOf) := goodIn_app (goodIn_of _ (by decide +kernel)) ggX0_weightsLeftOut_X0_weightsOf
theorem wX0_weightsLeftOut_63 : CWV mX0_weightsLeftOut 63 mX0_weightsOf 3 := ⟨gX0_weightsLeftOut_X0_weightsOf, ⟨_, rfl⟩, rfl, by decide +kernel, by decide +kernel, by decide +kernel⟩
/-- coins of the first i weights, in the order wt -/
def cB (W wt : Nat → Nat) : Nat → Nat
  | 0 => 0
  | i + 1 => cB W wt i + W (wt i)
/-- grains of the first t coins, in the order wt, of the first i weights -/
def gG (W wt : Nat → Nat) (t : Nat) : Nat → Nat
  | 0 => 0
  | i + 1 => gG W wt t i + min (W (wt i)) (t - cB W wt i) * (10 - wt i)
theorem cB_mono {W wt : Nat → Nat} {i j : Nat} (h : i ≤ j) : cB W wt i ≤ cB W wt j := by
  induction h with
  | refl => exact Nat.le_refl _
  | step _ ih => exact Nat.le_trans ih (Nat.le_add_right _ _)
theorem gG_step {W wt : Nat → Nat} {t i : Nat} (h1 : cB W wt i ≤ t) (h2 : t < cB W wt i + W (wt i)) : ∀ m, gG W wt (t + 1) m = gG W wt t m + (if i < m then 10 - wt i else 0) := by
  intro m
  induction m with
  | zero => rfl
  | succ m ih =>
    simp only [gG]
    rw [ih]
    rcases Nat.lt_trichotomy m i with h | h | h
    · have := cB_mono (W := W) (wt := wt) (show m + 1 ≤ i from h)
      simp only [cB] at this
      rw [if_neg (by omega), if_neg (by omega), Nat.min_eq_left (by omega), Nat.min_eq_left (by omega)]
      omega
    · subst h
      rw [if_neg (by omega), if_pos (by omega), show min (W (wt m)) (t + 1 - cB W wt m) = min (W (wt m)) (t - cB W wt m) + 1 by omega, Nat.add_mul]
      omega
    · have := cB_mono (W := W) (wt := wt) (show i + 1 ≤ m from h)
      simp only [cB] at this
      rw [if_pos h, if_pos (by omega), show t + 1 - cB W wt m = 0 by omega, show t - cB W wt m = 0 by omega]
      omega
theorem gG_0 {W wt : Nat → Nat} : ∀ m, gG W wt 0 m = 0 := by
  intro m
  induction m with
  | zero => rfl
  | succ m ih =>
    simp only [gG]
    rw [ih, Nat.zero_sub, Nat.min_zero]
    omega
/-- the array of sums when 'taken' are taken -/
def gArr (W wt : Nat → Nat) (taken : Nat) (f : Nat → Int32) : Nat → Int32 := fun j => if j ≤ taken then nI (gG W wt j 10) else f j
theorem gArr_0 {W wt : Nat → Nat} {f : Nat → Int32} : upd f 0 0 = gArr W wt 0 f := by
  funext j
  unfold gArr
  by_cases hj : j = 0
  · rw [hj, pk_us, if_pos (Nat.le_refl _), gG_0]; rfl
  · rw [pk_un hj, if_neg (by omega)]
theorem gArr_s {W wt : Nat → Nat} {f : Nat → Int32} {t i : Nat} (hi : i < 10) (hw : wt i < 10) (h1 : cB W wt i ≤ t) (h2 : t < cB W wt i + W (wt i)) : upd (gArr W wt t f) (t + 1) (gArr W wt t f t + 10 - nI (wt i)) = gArr W wt (t + 1) f := by
  funext j
  unfold gArr
  by_cases hj : j = t + 1
  · rw [hj, pk_us, if_pos (Nat.le_refl _), if_pos (Nat.le_refl _), gG_step h1 h2, if_pos hi, show (10 : Int32) = nI 10 from rfl, nI_add, pk_sub (by omega)]
    congr 1
    omega
  · rw [pk_un hj]
    by_cases h : j ≤ t
    · rw [if_pos h, if_pos (by omega)]
    · rw [if_neg h, if_neg (by omega)]
/-- look of k + 1 against tale of k -/
def lovT (hv lt : Nat → Int32) (n : Nat) (L : Int32) (k : Nat) : Int64 := (10 * hv (k + 1) - L * nI (k + 1)).toInt64 * (nI (n - k)).toInt64 - (lt (n - k)).toInt64 * (10 * nI (k + 1)).toInt64
def dUp (hv lt : Nat → Int32) (n : Nat) (L : Int32) (k : Nat) : Bool := decide (k < n) && decide (0 < lovT hv lt n L k)
def dDn (hv lt : Nat → Int32) (n : Nat) (L : Int32) (k : Nat) : Bool := decide (0 < k) && decide (lovT hv lt n L (k - 1) < 0)
def bI (b : Bool) : Int32 := if b then 1 else 0
def rsS (U D : Nat → Bool) : Nat → Int32
  | 0 => 0
  | k + 1 => if U k || D k then rsS U D k else rsS U D k ||| (1 <<< (nI k &&& 31))
def enT (U D : Nat → Bool) (k : Nat) : Nat := if U k then k + 1 else if D k then k - 1 else k
def enS (U D : Nat → Bool) : Nat → Nat → Nat
  | 0, k => k
  | d + 1, k => enS U D d (enT U D k)
/-- the least of k .. k + d - 1 that ends in n -/
def tiS (U D : Nat → Bool) (n : Nat) : Nat → Nat → Int32
  | 0, _ => -9
  | d + 1, k => if enS U D n k = n then nI k else tiS U D n d (k + 1)
def woB (W wt : Nat → Nat) (L : Nat) : Nat → Int32
  | 0 => 0
  | i + 1 => if cB W wt i < L ∧ 0 < W (wt i) then woB W wt L i ||| (1 <<< (nI (wt i) &&& 31)) else woB W wt L i
def wUp (i : Nat) : Nat := i
def wDn (i : Nat) : Nat := 9 - i
section
variable {Γ : gT} {l : Launch} {as : List Nat} {h : aH} {q a b c n : Nat} {fw f hv lt : Nat → Int32} {L : Int32} {W wt : Nat → Nat}
theorem sg_inner {s : Nat} (hq : hat as h q (ob 0 [.ref a, .ref b, .ref c, .int (nI n), .int L])) (ha : hat as h a (aI Γ 10 fw)) (hs : hat as h s (aI Γ 31 f)) (has : a ≠ s) (hn : n ≤ 30) (hW : ∀ j, j < 10 → fw j = nI (W j) ∧ W j < 1000) {i : Nat} (hi : i < 10) (hw : wt i < 10) {v2 v3 v5 : Int32} {Z : zT} (K : ∀ (x7 : Int32) (t : Nat), t = min n (cB W wt (i + 1)) → V Γ l mX0_sumGrains rX0_sumGrains Z 0 0 74 [(0, .ref q), (1, .ref s), (2, .int v2), (3, .int v3), (4, .int (nI t)), (5, .int v5), (6, .int (nI (wt i))), (7, .int x7)] [] as (hset h s (aI Γ 31 (gArr W wt t f)))) : ∀ (d k t : Nat) (y4 y7 : Int32) (ls : List (Nat × Value)) (h' : aH), k + d = W (wt i) → t = min n (cB W wt i) + k → t ≤ n → y7 = nI k → y4 = nI t → h' = hset h s (aI Γ 31 (gArr W wt t f)) → lin ls [(0, .ref q), (1, .ref s), (2, .int v2), (3, .int v3), (4, .int y4), (5, .int v5), (6, .int (nI (wt i))), (7, .int y7)] → V Γ l mX0_sumGrains rX0_sumGrains Z 0 0 28 ls [] as h' := by
  have hqs : q ≠ s := hat_un hq hs (fun z => by cases z)
  have hWi := hW (wt i) hw
  intro d
  induction d with
  | zero =>
    intro k t y4 y7 ls h' hk ht htn h7 h4 hh hl
    subst h7 h4 hh
    refine V.at ?_ hl
    refine q_iload dX0_sumGrains_28 rfl ?_
    refine q_aload_n dX0_sumGrains_30 rfl rfl ?_
    refine q_get dX0_sumGrains_31 fX0_sumGrains_9 (hat_ne hq hqs) rfl ?_
    refine q_iload dX0_sumGrains_34 rfl ?_
    refine q_iald dX0_sumGrains_36 (hat_ne ha has) (in_nI hw (by omega)) ?_
    rw [nI_clamp (by omega), hWi.1]
    refine q_icmp_ge 74 dX0_sumGrains_37 (by decide) (fun _ => ?_) (fun z => absurd (nI_le (by omega) (by omega)) z)
    exact K _ t (by simp only [cB]; omega)
  | succ d ih =>
    intro k t y4 y7 ls h' hk ht htn h7 h4 hh hl
    subst h7 h4 hh
    refine V.at ?_ hl
    refine q_iload dX0_sumGrains_28 rfl ?_
    refine q_aload_n dX0_sumGrains_30 rfl rfl ?_
    refine q_get dX0_sumGrains_31 fX0_sumGrains_9 (hat_ne hq hqs) rfl ?_
    refine q_iload dX0_sumGrains_34 rfl ?_
    refine q_iald dX0_sumGrains_36 (hat_ne ha has) (in_nI hw (by omega)) ?_
    rw [nI_clamp (by omega), hWi.1]
    refine q_icmp_ge 74 dX0_sumGrains_37 (by decide) (fun z => absurd z (nI_ge (by omega) (by omega))) (fun _ => ?_)
    refine q_iload dX0_sumGrains_40 rfl ?_
    refine q_aload_n dX0_sumGrains_42 rfl rfl ?_
    refine q_get dX0_sumGrains_43 fX0_sumGrains_21 (hat_ne hq hqs) rfl ?_
    refine q_icmp_ge 74 dX0_sumGrains_46 (by decide) (fun cT => ?_) (fun cT => ?_)
    · have hT : n ≤ t := (nI_leI (by omega) (by omega)).mp cT
      exact K _ t (by simp only [cB]; omega)
    · have hT : ¬ n ≤ t := fun z => cT (nI_le z (by omega))
      refine q_iinc1 dX0_sumGrains_49 rfl (by decide) ?_
      refine q_aload_n dX0_sumGrains_52 rfl rfl ?_
      refine q_iload dX0_sumGrains_53 rfl ?_
      refine q_aload_n dX0_sumGrains_55 rfl rfl ?_
      refine q_iload dX0_sumGrains_56 rfl ?_
      refine q_iconst (v := 1) dX0_sumGrains_58 rfl ?_
      refine q_isub dX0_sumGrains_59 ?_
      rw [nI_s, nI_pred]
      refine q_iald dX0_sumGrains_60 (hat_set hs) (in_nI (show t < 31 by omega) (by omega)) ?_
      refine q_bipush (v := 10) dX0_sumGrains_61 rfl ?_
      refine q_iadd dX0_sumGrains_63 ?_
      refine q_iload dX0_sumGrains_64 rfl ?_
      refine q_isub dX0_sumGrains_66 ?_
      refine q_iast dX0_sumGrains_67 (hat_set hs) (in_nI (show t + 1 < 31 by omega) (by omega)) ?_
      refine q_iinc1 dX0_sumGrains_68 rfl (by decide) ?_
      refine q_goto 28 dX0_sumGrains_71 (by decide) ?_
      exact ih (k + 1) (t + 1) _ _ _ _ (by omega) (by omega) (by omega) (nI_s k) rfl (by rw [hset_hset, nI_clamp (by omega), nI_clamp (by omega), gArr_s hi hw (by omega) (by omega)]) ⟨rfl, rfl, rfl, rfl, rfl, rfl, rfl, rfl, trivial⟩
theorem sg_loop {s : Nat} (hq : hat as h q (ob 0 [.ref a, .ref b, .ref c, .int (nI n), .int L])) (ha : hat as h a (aI Γ 10 fw)) (hs : hat as h s (aI Γ 31 f)) (has : a ≠ s) (hn : n ≤ 30) (hW : ∀ j, j < 10 → fw j = nI (W j) ∧ W j < 1000) {v2 v3 : Int32} (hwt : ∀ i, i < 10 → wt i < 10 ∧ v2 + v3 * nI i = nI (wt i)) : ∀ (d i t : Nat) (y4 y5 : Int32) (ls : List (Nat × Value)) (h' : aH), i + d = 10 → t = min n (cB W wt i) → y5 = nI i → y4 = nI t → h' = hset h s (aI Γ 31 (gArr W wt t f)) → lin ls [(0, .ref q), (1, .ref s), (2, .int v2), (3, .int v3), (4, .int y4), (5, .int y5)] → V Γ l mX0_sumGrains rX0_sumGrains (Zm Γ rX0_sumGrains (qD none as (hset h s (aI Γ 31 (gArr W wt (min n (cB W wt 10)) f))))) 0 0 10 ls [] as h' := by
  intro d
  induction d with
  | zero =>
    intro i t y4 y5 ls h' hk ht h5 h4 hh hl
    subst h5 h4 hh
    refine V.at ?_ hl
    refine q_iload dX0_sumGrains_10 rfl ?_
    refine q_bipush (v := 10) dX0_sumGrains_12 rfl ?_
    refine q_icmp_ge 80 dX0_sumGrains_14 (by decide) (fun _ => ?_) (fun z => absurd (ge_c 10 rfl (by omega) (by omega)) z)
    exact q_vret dX0_sumGrains_80 rfl (Nat.zero_le _) (Nat.zero_le _) (⟨rfl, rfl, by rw [ht, show i = 10 by omega]⟩)
  | succ d ih =>
    intro i t y4 y5 ls h' hk ht h5 h4 hh hl
    subst h5 h4 hh
    refine V.at ?_ hl
    refine q_iload dX0_sumGrains_10 rfl ?_
    refine q_bipush (v := 10) dX0_sumGrains_12 rfl ?_
    refine q_icmp_ge 80 dX0_sumGrains_14 (by decide) (fun z => absurd z (lt_c 10 rfl (by omega) (by omega))) (fun _ => ?_)
    refine q_iload_n dX0_sumGrains_17 rfl rfl ?_
    refine q_iload_n dX0_sumGrains_18 rfl rfl ?_
    refine q_iload dX0_sumGrains_19 rfl ?_
    refine q_imul dX0_sumGrains_21 ?_
    refine q_iadd dX0_sumGrains_22 ?_
    rw [(hwt i (by omega)).2]
    refine q_istore dX0_sumGrains_23 (by decide) ?_
    refine q_iconst (v := 0) dX0_sumGrains_25 rfl ?_
    refine q_istore dX0_sumGrains_26 (by decide) ?_
    exact sg_inner hq ha hs has hn hW (show i < 10 by omega) (hwt i (by omega)).1 (fun x7 t ht => by
    refine q_iinc1 dX0_sumGrains_74 rfl (by decide) ?_
    refine q_goto 10 dX0_sumGrains_77 (by decide) ?_
    exact ih (i + 1) t _ _ _ _ (by omega) ht (nI_s i) rfl rfl ⟨rfl, rfl, rfl, rfl, rfl, rfl, trivial⟩
      ) (W (wt i)) 0 t _ _ _ _ (by omega) (by omega) (by omega) rfl rfl rfl ⟨rfl, rfl, rfl, rfl, rfl, rfl, rfl, rfl, trivial⟩
theorem c_sumGrains {s : Nat} (hq : hat as h q (ob 0 [.ref a, .ref b, .ref c, .int (nI n), .int L])) (ha : hat as h a (aI Γ 10 fw)) (hs : hat as h s (aI Γ 31 f)) (has : a ≠ s) (hn : n ≤ 30) (hW : ∀ j, j < 10 → fw j = nI (W j) ∧ W j < 1000) {v2 v3 : Int32} (hwt : ∀ i, i < 10 → wt i < 10 ∧ v2 + v3 * nI i = nI (wt i)) : Det Γ l mX0_sumGrains rX0_sumGrains [.ref q, .ref s, .int v2, .int v3] as h none (hset h s (aI Γ 31 (gArr W wt (min n (cB W wt 10)) f))) := by
  refine Con.of (by decide +kernel) rfl rfl (Nat.le_of_ble_eq_true rfl) ?_
  refine q_aload_n dX0_sumGrains_0 rfl rfl ?_
  refine q_iconst (v := 0) dX0_sumGrains_1 rfl ?_
  refine q_iconst (v := 0) dX0_sumGrains_2 rfl ?_
  refine q_iast dX0_sumGrains_3 (hs) (in_nI (k := 0) (by omega) (by omega)) ?_
  refine q_iconst (v := 0) dX0_sumGrains_4 rfl ?_
  refine q_istore dX0_sumGrains_5 (by decide) ?_
  refine q_iconst (v := 0) dX0_sumGrains_7 rfl ?_
  refine q_istore dX0_sumGrains_8 (by decide) ?_
  exact sg_loop hq ha hs has hn hW hwt 10 0 0 _ _ _ _ (by omega) (by simp [cB]) rfl rfl (by rw [← gArr_0]; rfl) ⟨rfl, rfl, rfl, rfl, rfl, rfl, trivial⟩
end

