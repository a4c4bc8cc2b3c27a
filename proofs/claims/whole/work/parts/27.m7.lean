/-! THE REFERENCE (X9): clips, years, mean -/
abbrev mX9_asIs : mT := (yX9_asIs, RX9, cX9_asIs, 2, (some .int), wsX9_asIs)
abbrev rX9_asIs : Room := { frames := 0, cells := 0, slots := 0, locals := 0 }
theorem dX9_asIs_0 : decode cX9_asIs 0 = .ok (.iload_n 1, 1) := by decide +kernel
theorem dX9_asIs_1 : decode cX9_asIs 1 = .ok (.aload_n 0, 1) := by decide +kernel
theorem dX9_asIs_2 : decode cX9_asIs 2 = .ok (.getfield 39, 3) := by decide +kernel
theorem dX9_asIs_5 : decode cX9_asIs 5 = .ok (.iconst 0, 1) := by decide +kernel
theorem dX9_asIs_6 : decode cX9_asIs 6 = .ok (.iaload, 1) := by decide +kernel
theorem dX9_asIs_7 : decode cX9_asIs 7 = .ok (.if_icmp .gt 8, 3) := by decide +kernel
theorem dX9_asIs_10 : decode cX9_asIs 10 = .ok (.bipush 10, 2) := by decide +kernel
theorem dX9_asIs_12 : decode cX9_asIs 12 = .ok (.goto 7, 3) := by decide +kernel
theorem dX9_asIs_15 : decode cX9_asIs 15 = .ok (.bipush 10, 2) := by decide +kernel
theorem dX9_asIs_17 : decode cX9_asIs 17 = .ok (.iload_n 1, 1) := by decide +kernel
theorem dX9_asIs_18 : decode cX9_asIs 18 = .ok (.isub, 1) := by decide +kernel
theorem dX9_asIs_19 : decode cX9_asIs 19 = .ok (.ireturn, 1) := by decide +kernel
theorem iX9_asIs_9 : ∀ w ∈ wsX90, w ∈ wsX9_asIs := fun w h => List.mem_cons_of_mem _ (List.mem_append_right _ h)
theorem fX9_asIs_39 : FL mX9_asIs 39 9 17 := ⟨_, _, _, rfl, by decide, iX9_asIs_9, by decide +kernel⟩
abbrev mX9_findWorth : mT := (yX9_findWorth, RX9, cX9_findWorth, 8, none, wsX9_findWorth)
abbrev rX9_findWorth : Room := { frames := 1, cells := 0, slots := 0, locals := 21 }
theorem dX9_findWorth_0 : decode cX9_findWorth 0 = .ok (.lconst 1, 1) := by decide +kernel
theorem dX9_findWorth_1 : decode cX9_findWorth 1 = .ok (.lstore_n 1, 1) := by decide +kernel
theorem dX9_findWorth_2 : decode cX9_findWorth 2 = .ok (.aload_n 0, 1) := by decide +kernel
theorem dX9_findWorth_3 : decode cX9_findWorth 3 = .ok (.getfield 45, 3) := by decide +kernel
theorem dX9_findWorth_6 : decode cX9_findWorth 6 = .ok (.bipush 9, 2) := by decide +kernel
theorem dX9_findWorth_8 : decode cX9_findWorth 8 = .ok (.aload_n 0, 1) := by decide +kernel
theorem dX9_findWorth_9 : decode cX9_findWorth 9 = .ok (.bipush 9, 2) := by decide +kernel
theorem dX9_findWorth_11 : decode cX9_findWorth 11 = .ok (.invokevirtual 191, 3) := by decide +kernel
theorem dX9_findWorth_14 : decode cX9_findWorth 14 = .ok (.i2l, 1) := by decide +kernel
theorem dX9_findWorth_15 : decode cX9_findWorth 15 = .ok (.lastore, 1) := by decide +kernel
theorem dX9_findWorth_16 : decode cX9_findWorth 16 = .ok (.aload_n 0, 1) := by decide +kernel
theorem dX9_findWorth_17 : decode cX9_findWorth 17 = .ok (.getfield 49, 3) := by decide +kernel
theorem dX9_findWorth_20 : decode cX9_findWorth 20 = .ok (.bipush 9, 2) := by decide +kernel
theorem dX9_findWorth_22 : decode cX9_findWorth 22 = .ok (.iconst 0, 1) := by decide +kernel
theorem dX9_findWorth_23 : decode cX9_findWorth 23 = .ok (.bastore, 1) := by decide +kernel
theorem dX9_findWorth_24 : decode cX9_findWorth 24 = .ok (.bipush 8, 2) := by decide +kernel
theorem dX9_findWorth_26 : decode cX9_findWorth 26 = .ok (.istore_n 3, 1) := by decide +kernel
theorem dX9_findWorth_27 : decode cX9_findWorth 27 = .ok (.iload_n 3, 1) := by decide +kernel
theorem dX9_findWorth_28 : decode cX9_findWorth 28 = .ok (.ifCond .lt 120, 3) := by decide +kernel
theorem dX9_findWorth_31 : decode cX9_findWorth 31 = .ok (.aload_n 0, 1) := by decide +kernel
theorem dX9_findWorth_32 : decode cX9_findWorth 32 = .ok (.iload_n 3, 1) := by decide +kernel
theorem dX9_findWorth_33 : decode cX9_findWorth 33 = .ok (.invokevirtual 191, 3) := by decide +kernel
theorem dX9_findWorth_36 : decode cX9_findWorth 36 = .ok (.i2l, 1) := by decide +kernel
theorem dX9_findWorth_37 : decode cX9_findWorth 37 = .ok (.lload_n 1, 1) := by decide +kernel
theorem dX9_findWorth_38 : decode cX9_findWorth 38 = .ok (.lmul, 1) := by decide +kernel
theorem dX9_findWorth_39 : decode cX9_findWorth 39 = .ok (.ldc2_w 176, 3) := by decide +kernel
theorem dX9_findWorth_42 : decode cX9_findWorth 42 = .ok (.lmul, 1) := by decide +kernel
theorem dX9_findWorth_43 : decode cX9_findWorth 43 = .ok (.lstore 4, 2) := by decide +kernel
theorem dX9_findWorth_45 : decode cX9_findWorth 45 = .ok (.aload_n 0, 1) := by decide +kernel
theorem dX9_findWorth_46 : decode cX9_findWorth 46 = .ok (.getfield 39, 3) := by decide +kernel
theorem dX9_findWorth_49 : decode cX9_findWorth 49 = .ok (.iconst 3, 1) := by decide +kernel
theorem dX9_findWorth_50 : decode cX9_findWorth 50 = .ok (.iaload, 1) := by decide +kernel
theorem dX9_findWorth_51 : decode cX9_findWorth 51 = .ok (.i2l, 1) := by decide +kernel
theorem dX9_findWorth_52 : decode cX9_findWorth 52 = .ok (.lneg, 1) := by decide +kernel
theorem dX9_findWorth_53 : decode cX9_findWorth 53 = .ok (.aload_n 0, 1) := by decide +kernel
theorem dX9_findWorth_54 : decode cX9_findWorth 54 = .ok (.getfield 39, 3) := by decide +kernel
theorem dX9_findWorth_57 : decode cX9_findWorth 57 = .ok (.iconst 2, 1) := by decide +kernel
theorem dX9_findWorth_58 : decode cX9_findWorth 58 = .ok (.iaload, 1) := by decide +kernel
theorem dX9_findWorth_59 : decode cX9_findWorth 59 = .ok (.i2l, 1) := by decide +kernel
theorem dX9_findWorth_60 : decode cX9_findWorth 60 = .ok (.lmul, 1) := by decide +kernel
theorem dX9_findWorth_61 : decode cX9_findWorth 61 = .ok (.lload_n 1, 1) := by decide +kernel
theorem dX9_findWorth_62 : decode cX9_findWorth 62 = .ok (.lmul, 1) := by decide +kernel
theorem dX9_findWorth_63 : decode cX9_findWorth 63 = .ok (.ldc2_w 176, 3) := by decide +kernel
theorem dX9_findWorth_66 : decode cX9_findWorth 66 = .ok (.aload_n 0, 1) := by decide +kernel
theorem dX9_findWorth_67 : decode cX9_findWorth 67 = .ok (.getfield 39, 3) := by decide +kernel
theorem dX9_findWorth_70 : decode cX9_findWorth 70 = .ok (.iconst 3, 1) := by decide +kernel
theorem dX9_findWorth_71 : decode cX9_findWorth 71 = .ok (.iaload, 1) := by decide +kernel
theorem dX9_findWorth_72 : decode cX9_findWorth 72 = .ok (.i2l, 1) := by decide +kernel
theorem dX9_findWorth_73 : decode cX9_findWorth 73 = .ok (.lsub, 1) := by decide +kernel
theorem dX9_findWorth_74 : decode cX9_findWorth 74 = .ok (.aload_n 0, 1) := by decide +kernel
theorem dX9_findWorth_75 : decode cX9_findWorth 75 = .ok (.getfield 39, 3) := by decide +kernel
theorem dX9_findWorth_78 : decode cX9_findWorth 78 = .ok (.iconst 4, 1) := by decide +kernel
theorem dX9_findWorth_79 : decode cX9_findWorth 79 = .ok (.iaload, 1) := by decide +kernel
theorem dX9_findWorth_80 : decode cX9_findWorth 80 = .ok (.i2l, 1) := by decide +kernel
theorem dX9_findWorth_81 : decode cX9_findWorth 81 = .ok (.lload_n 1, 1) := by decide +kernel
theorem dX9_findWorth_82 : decode cX9_findWorth 82 = .ok (.lmul, 1) := by decide +kernel
theorem dX9_findWorth_83 : decode cX9_findWorth 83 = .ok (.aload_n 0, 1) := by decide +kernel
theorem dX9_findWorth_84 : decode cX9_findWorth 84 = .ok (.getfield 45, 3) := by decide +kernel
theorem dX9_findWorth_87 : decode cX9_findWorth 87 = .ok (.iload_n 3, 1) := by decide +kernel
theorem dX9_findWorth_88 : decode cX9_findWorth 88 = .ok (.iconst 1, 1) := by decide +kernel
theorem dX9_findWorth_89 : decode cX9_findWorth 89 = .ok (.iadd, 1) := by decide +kernel
theorem dX9_findWorth_90 : decode cX9_findWorth 90 = .ok (.laload, 1) := by decide +kernel
theorem dX9_findWorth_91 : decode cX9_findWorth 91 = .ok (.ladd, 1) := by decide +kernel
theorem dX9_findWorth_92 : decode cX9_findWorth 92 = .ok (.lmul, 1) := by decide +kernel
theorem dX9_findWorth_93 : decode cX9_findWorth 93 = .ok (.ladd, 1) := by decide +kernel
theorem dX9_findWorth_94 : decode cX9_findWorth 94 = .ok (.lstore 6, 2) := by decide +kernel
theorem dX9_findWorth_96 : decode cX9_findWorth 96 = .ok (.aload_n 0, 1) := by decide +kernel
theorem dX9_findWorth_97 : decode cX9_findWorth 97 = .ok (.getfield 49, 3) := by decide +kernel
theorem dX9_findWorth_100 : decode cX9_findWorth 100 = .ok (.iload_n 3, 1) := by decide +kernel
theorem dX9_findWorth_101 : decode cX9_findWorth 101 = .ok (.lload 6, 2) := by decide +kernel
theorem dX9_findWorth_103 : decode cX9_findWorth 103 = .ok (.lload 4, 2) := by decide +kernel
theorem dX9_findWorth_105 : decode cX9_findWorth 105 = .ok (.lcmp, 1) := by decide +kernel
theorem dX9_findWorth_106 : decode cX9_findWorth 106 = .ok (.ifCond .le 7, 3) := by decide +kernel
theorem dX9_findWorth_109 : decode cX9_findWorth 109 = .ok (.iconst 1, 1) := by decide +kernel
theorem dX9_findWorth_110 : decode cX9_findWorth 110 = .ok (.goto 4, 3) := by decide +kernel
theorem dX9_findWorth_113 : decode cX9_findWorth 113 = .ok (.iconst 0, 1) := by decide +kernel
theorem dX9_findWorth_114 : decode cX9_findWorth 114 = .ok (.bastore, 1) := by decide +kernel
theorem dX9_findWorth_115 : decode cX9_findWorth 115 = .ok (.aload_n 0, 1) := by decide +kernel
theorem dX9_findWorth_116 : decode cX9_findWorth 116 = .ok (.getfield 45, 3) := by decide +kernel
theorem dX9_findWorth_119 : decode cX9_findWorth 119 = .ok (.iload_n 3, 1) := by decide +kernel
theorem dX9_findWorth_120 : decode cX9_findWorth 120 = .ok (.lload 6, 2) := by decide +kernel
theorem dX9_findWorth_122 : decode cX9_findWorth 122 = .ok (.lload 4, 2) := by decide +kernel
theorem dX9_findWorth_124 : decode cX9_findWorth 124 = .ok (.lcmp, 1) := by decide +kernel
theorem dX9_findWorth_125 : decode cX9_findWorth 125 = .ok (.ifCond .le 8, 3) := by decide +kernel
theorem dX9_findWorth_128 : decode cX9_findWorth 128 = .ok (.lload 6, 2) := by decide +kernel
theorem dX9_findWorth_130 : decode cX9_findWorth 130 = .ok (.goto 5, 3) := by decide +kernel
theorem dX9_findWorth_133 : decode cX9_findWorth 133 = .ok (.lload 4, 2) := by decide +kernel
theorem dX9_findWorth_135 : decode cX9_findWorth 135 = .ok (.lastore, 1) := by decide +kernel
theorem dX9_findWorth_136 : decode cX9_findWorth 136 = .ok (.lload_n 1, 1) := by decide +kernel
theorem dX9_findWorth_137 : decode cX9_findWorth 137 = .ok (.ldc2_w 176, 3) := by decide +kernel
theorem dX9_findWorth_140 : decode cX9_findWorth 140 = .ok (.lmul, 1) := by decide +kernel
theorem dX9_findWorth_141 : decode cX9_findWorth 141 = .ok (.lstore_n 1, 1) := by decide +kernel
theorem dX9_findWorth_142 : decode cX9_findWorth 142 = .ok (.iinc 3 (-1), 3) := by decide +kernel
theorem dX9_findWorth_145 : decode cX9_findWorth 145 = .ok (.goto (-118), 3) := by decide +kernel
theorem dX9_findWorth_148 : decode cX9_findWorth 148 = .ok (.return_, 1) := by decide +kernel
theorem iX9_findWorth_9 : ∀ w ∈ wsX90, w ∈ wsX9_findWorth := fun w h => List.mem_cons_of_mem _ (List.mem_append_right _ h)
theorem fX9_findWorth_39 : FL mX9_findWorth 39 9 17 := ⟨_, _, _, rfl, by decide, iX9_findWorth_9, by decide +kernel⟩
theorem fX9_findWorth_45 : FL mX9_findWorth 45 9 20 := ⟨_, _, _, rfl, by decide, iX9_findWorth_9, by decide +kernel⟩
theorem fX9_findWorth_49 : FL mX9_findWorth 49 9 21 := ⟨_, _, _, rfl, by decide, iX9_findWorth_9, by decide +kernel⟩
set_option maxRecDepth 20000 in
theorem ggX9_findWorth_X9_asIs : GoodIn wsX9_findWorth wsX9_asIs := goodIn_r _ [9, 4, 10, 11, 12, 13, 14, 15, 16, 17, 18, 19, 20, 21, 22, 23, 24, 25, 26, 27, 28, 29, 30, 31, 32, 33, 34] (by decide +kernel) (by decide +kernel)
set_option maxRecDepth 20000 in
theorem gX9_findWorth_X9_asIs : GoodIn wsX9_findWorth (wsV RX9 191 RX9 yX9_asIs wsX9_asIs) := goodIn_app (goodIn_of _ (by decide +kernel)) ggX9_findWorth_X9_asIs
theorem wX9_findWorth_191 : CWV mX9_findWorth 191 mX9_asIs 1 := ⟨gX9_findWorth_X9_asIs, ⟨_, rfl⟩, rfl, by decide +kernel, by decide +kernel, by decide +kernel⟩
abbrev mX9_clip : mT := (yX9_clip, RX9, cX9_clip, 6, (some .long), wsX9_clip)
abbrev rX9_clip : Room := { frames := 2, cells := 0, slots := 0, locals := 55 }
theorem dX9_clip_0 : decode cX9_clip 0 = .ok (.iload_n 1, 1) := by decide +kernel
theorem dX9_clip_1 : decode cX9_clip 1 = .ok (.i2l, 1) := by decide +kernel
theorem dX9_clip_2 : decode cX9_clip 2 = .ok (.lconst 0, 1) := by decide +kernel
theorem dX9_clip_3 : decode cX9_clip 3 = .ok (.ldc2_w 125, 3) := by decide +kernel
theorem dX9_clip_6 : decode cX9_clip 6 = .ok (.invokestatic 60, 3) := by decide +kernel
theorem dX9_clip_9 : decode cX9_clip 9 = .ok (.ifCond .eq 15, 3) := by decide +kernel
theorem dX9_clip_12 : decode cX9_clip 12 = .ok (.iload_n 2, 1) := by decide +kernel
theorem dX9_clip_13 : decode cX9_clip 13 = .ok (.i2l, 1) := by decide +kernel
theorem dX9_clip_14 : decode cX9_clip 14 = .ok (.lconst 0, 1) := by decide +kernel
theorem dX9_clip_15 : decode cX9_clip 15 = .ok (.ldc2_w 194, 3) := by decide +kernel
theorem dX9_clip_18 : decode cX9_clip 18 = .ok (.invokestatic 60, 3) := by decide +kernel
theorem dX9_clip_21 : decode cX9_clip 21 = .ok (.ifCond .ne 7, 3) := by decide +kernel
theorem dX9_clip_24 : decode cX9_clip 24 = .ok (.ldc2_w 167, 3) := by decide +kernel
theorem dX9_clip_27 : decode cX9_clip 27 = .ok (.lreturn, 1) := by decide +kernel
theorem dX9_clip_28 : decode cX9_clip 28 = .ok (.aload_n 0, 1) := by decide +kernel
theorem dX9_clip_29 : decode cX9_clip 29 = .ok (.invokevirtual 196, 3) := by decide +kernel
theorem dX9_clip_32 : decode cX9_clip 32 = .ok (.iload_n 2, 1) := by decide +kernel
theorem dX9_clip_33 : decode cX9_clip 33 = .ok (.iconst 2, 1) := by decide +kernel
theorem dX9_clip_34 : decode cX9_clip 34 = .ok (.if_icmp .ne 23, 3) := by decide +kernel
theorem dX9_clip_37 : decode cX9_clip 37 = .ok (.iload_n 1, 1) := by decide +kernel
theorem dX9_clip_38 : decode cX9_clip 38 = .ok (.istore_n 3, 1) := by decide +kernel
theorem dX9_clip_39 : decode cX9_clip 39 = .ok (.aload_n 0, 1) := by decide +kernel
theorem dX9_clip_40 : decode cX9_clip 40 = .ok (.getfield 49, 3) := by decide +kernel
theorem dX9_clip_43 : decode cX9_clip 43 = .ok (.iload_n 3, 1) := by decide +kernel
theorem dX9_clip_44 : decode cX9_clip 44 = .ok (.baload, 1) := by decide +kernel
theorem dX9_clip_45 : decode cX9_clip 45 = .ok (.ifCond .eq 9, 3) := by decide +kernel
theorem dX9_clip_48 : decode cX9_clip 48 = .ok (.iinc 3 1, 3) := by decide +kernel
theorem dX9_clip_51 : decode cX9_clip 51 = .ok (.goto (-12), 3) := by decide +kernel
theorem dX9_clip_54 : decode cX9_clip 54 = .ok (.iload_n 3, 1) := by decide +kernel
theorem dX9_clip_55 : decode cX9_clip 55 = .ok (.i2l, 1) := by decide +kernel
theorem dX9_clip_56 : decode cX9_clip 56 = .ok (.lreturn, 1) := by decide +kernel
theorem dX9_clip_57 : decode cX9_clip 57 = .ok (.lconst 1, 1) := by decide +kernel
theorem dX9_clip_58 : decode cX9_clip 58 = .ok (.lstore_n 3, 1) := by decide +kernel
theorem dX9_clip_59 : decode cX9_clip 59 = .ok (.iload_n 1, 1) := by decide +kernel
theorem dX9_clip_60 : decode cX9_clip 60 = .ok (.istore 5, 2) := by decide +kernel
theorem dX9_clip_62 : decode cX9_clip 62 = .ok (.iload 5, 2) := by decide +kernel
theorem dX9_clip_64 : decode cX9_clip 64 = .ok (.bipush 9, 2) := by decide +kernel
theorem dX9_clip_66 : decode cX9_clip 66 = .ok (.if_icmp .ge 15, 3) := by decide +kernel
theorem dX9_clip_69 : decode cX9_clip 69 = .ok (.lload_n 3, 1) := by decide +kernel
theorem dX9_clip_70 : decode cX9_clip 70 = .ok (.ldc2_w 176, 3) := by decide +kernel
theorem dX9_clip_73 : decode cX9_clip 73 = .ok (.lmul, 1) := by decide +kernel
theorem dX9_clip_74 : decode cX9_clip 74 = .ok (.lstore_n 3, 1) := by decide +kernel
theorem dX9_clip_75 : decode cX9_clip 75 = .ok (.iinc 5 1, 3) := by decide +kernel
theorem dX9_clip_78 : decode cX9_clip 78 = .ok (.goto (-16), 3) := by decide +kernel
theorem dX9_clip_81 : decode cX9_clip 81 = .ok (.aload_n 0, 1) := by decide +kernel
theorem dX9_clip_82 : decode cX9_clip 82 = .ok (.getfield 45, 3) := by decide +kernel
theorem dX9_clip_85 : decode cX9_clip 85 = .ok (.iload_n 1, 1) := by decide +kernel
theorem dX9_clip_86 : decode cX9_clip 86 = .ok (.laload, 1) := by decide +kernel
theorem dX9_clip_87 : decode cX9_clip 87 = .ok (.lload_n 3, 1) := by decide +kernel
theorem dX9_clip_88 : decode cX9_clip 88 = .ok (.iload_n 2, 1) := by decide +kernel
theorem dX9_clip_89 : decode cX9_clip 89 = .ok (.invokestatic 178, 3) := by decide +kernel
theorem dX9_clip_92 : decode cX9_clip 92 = .ok (.lreturn, 1) := by decide +kernel
theorem iX9_clip_9 : ∀ w ∈ wsX90, w ∈ wsX9_clip := fun w h => List.mem_cons_of_mem _ (List.mem_append_right _ h)
theorem fX9_clip_45 : FL mX9_clip 45 9 20 := ⟨_, _, _, rfl, by decide, iX9_clip_9, by decide +kernel⟩
theorem fX9_clip_49 : FL mX9_clip 49 9 21 := ⟨_, _, _, rfl, by decide, iX9_clip_9, by decide +kernel⟩
set_option maxRecDepth 20000 in
theorem ggX9_clip_X9_in : GoodIn wsX9_clip wsX9_in := goodIn_r _ [10] (by decide +kernel) (by decide +kernel)
set_option maxRecDepth 20000 in
theorem gX9_clip_X9_in : GoodIn wsX9_clip (va_wsS RX9 60 yX9_in wsX9_in) := goodIn_app (goodIn_of _ (by decide +kernel)) ggX9_clip_X9_in
theorem wX9_clip_60 : CWS mX9_clip 60 mX9_in 3 := ⟨gX9_clip_X9_in, ⟨_, rfl⟩, by decide +kernel, by decide +kernel, by decide +kernel⟩
set_option maxRecDepth 20000 in
theorem ggX9_clip_X9_inLeast : GoodIn wsX9_clip wsX9_inLeast := goodIn_r _ [22, 23, 24, 9, 25] (by decide +kernel) (by decide +kernel)
set_option maxRecDepth 20000 in
theorem gX9_clip_X9_inLeast : GoodIn wsX9_clip (va_wsS RX9 178 yX9_inLeast wsX9_inLeast) := goodIn_app (goodIn_of _ (by decide +kernel)) ggX9_clip_X9_inLeast
theorem wX9_clip_178 : CWS mX9_clip 178 mX9_inLeast 3 := ⟨gX9_clip_X9_inLeast, ⟨_, rfl⟩, by decide +kernel, by decide +kernel, by decide +kernel⟩
set_option maxRecDepth 20000 in
theorem ggX9_clip_X9_findWorth : GoodIn wsX9_clip wsX9_findWorth := goodIn_r _ [14, 6, 4, 5, 15, 16, 17, 18, 9, 19, 26, 27, 28, 29, 30, 31, 32, 33, 34, 35, 36, 37, 38, 39, 40, 41, 42, 43, 44, 45, 46, 47, 48, 49, 50] (by decide +kernel) (by decide +kernel)
set_option maxRecDepth 20000 in
theorem gX9_clip_X9_findWorth : GoodIn wsX9_clip (wsV RX9 196 RX9 yX9_findWorth wsX9_findWorth) := goodIn_app (goodIn_of _ (by decide +kernel)) ggX9_clip_X9_findWorth
theorem wX9_clip_196 : CWV mX9_clip 196 mX9_findWorth 0 := ⟨gX9_clip_X9_findWorth, ⟨_, rfl⟩, rfl, by decide +kernel, by decide +kernel, by decide +kernel⟩
abbrev mX9_wear : mT := (yX9_wear, RX9, cX9_wear, 6, none, wsX9_wear)
abbrev rX9_wear : Room := { frames := 0, cells := 0, slots := 0, locals := 0 }
theorem dX9_wear_0 : decode cX9_wear 0 = .ok (.iconst 0, 1) := by decide +kernel
theorem dX9_wear_1 : decode cX9_wear 1 = .ok (.istore_n 2, 1) := by decide +kernel
theorem dX9_wear_2 : decode cX9_wear 2 = .ok (.iload_n 2, 1) := by decide +kernel
theorem dX9_wear_3 : decode cX9_wear 3 = .ok (.bipush 8, 2) := by decide +kernel
theorem dX9_wear_5 : decode cX9_wear 5 = .ok (.if_icmp .ge 102, 3) := by decide +kernel
theorem dX9_wear_8 : decode cX9_wear 8 = .ok (.iload_n 1, 1) := by decide +kernel
theorem dX9_wear_9 : decode cX9_wear 9 = .ok (.bipush 10, 2) := by decide +kernel
theorem dX9_wear_11 : decode cX9_wear 11 = .ok (.iload_n 2, 1) := by decide +kernel
theorem dX9_wear_12 : decode cX9_wear 12 = .ok (.imul, 1) := by decide +kernel
theorem dX9_wear_13 : decode cX9_wear 13 = .ok (.iadd, 1) := by decide +kernel
theorem dX9_wear_14 : decode cX9_wear 14 = .ok (.istore_n 3, 1) := by decide +kernel
theorem dX9_wear_15 : decode cX9_wear 15 = .ok (.aload_n 0, 1) := by decide +kernel
theorem dX9_wear_16 : decode cX9_wear 16 = .ok (.getfield 26, 3) := by decide +kernel
theorem dX9_wear_19 : decode cX9_wear 19 = .ok (.iload_n 3, 1) := by decide +kernel
theorem dX9_wear_20 : decode cX9_wear 20 = .ok (.bipush 9, 2) := by decide +kernel
theorem dX9_wear_22 : decode cX9_wear 22 = .ok (.iadd, 1) := by decide +kernel
theorem dX9_wear_23 : decode cX9_wear 23 = .ok (.iaload, 1) := by decide +kernel
theorem dX9_wear_24 : decode cX9_wear 24 = .ok (.aload_n 0, 1) := by decide +kernel
theorem dX9_wear_25 : decode cX9_wear 25 = .ok (.getfield 26, 3) := by decide +kernel
theorem dX9_wear_28 : decode cX9_wear 28 = .ok (.iload_n 3, 1) := by decide +kernel
theorem dX9_wear_29 : decode cX9_wear 29 = .ok (.bipush 8, 2) := by decide +kernel
theorem dX9_wear_31 : decode cX9_wear 31 = .ok (.iadd, 1) := by decide +kernel
theorem dX9_wear_32 : decode cX9_wear 32 = .ok (.iaload, 1) := by decide +kernel
theorem dX9_wear_33 : decode cX9_wear 33 = .ok (.iadd, 1) := by decide +kernel
theorem dX9_wear_34 : decode cX9_wear 34 = .ok (.istore 4, 2) := by decide +kernel
theorem dX9_wear_36 : decode cX9_wear 36 = .ok (.bipush 8, 2) := by decide +kernel
theorem dX9_wear_38 : decode cX9_wear 38 = .ok (.istore 5, 2) := by decide +kernel
theorem dX9_wear_40 : decode cX9_wear 40 = .ok (.iload 5, 2) := by decide +kernel
theorem dX9_wear_42 : decode cX9_wear 42 = .ok (.ifCond .le 29, 3) := by decide +kernel
theorem dX9_wear_45 : decode cX9_wear 45 = .ok (.aload_n 0, 1) := by decide +kernel
theorem dX9_wear_46 : decode cX9_wear 46 = .ok (.getfield 26, 3) := by decide +kernel
theorem dX9_wear_49 : decode cX9_wear 49 = .ok (.iload_n 3, 1) := by decide +kernel
theorem dX9_wear_50 : decode cX9_wear 50 = .ok (.iload 5, 2) := by decide +kernel
theorem dX9_wear_52 : decode cX9_wear 52 = .ok (.iadd, 1) := by decide +kernel
theorem dX9_wear_53 : decode cX9_wear 53 = .ok (.aload_n 0, 1) := by decide +kernel
theorem dX9_wear_54 : decode cX9_wear 54 = .ok (.getfield 26, 3) := by decide +kernel
theorem dX9_wear_57 : decode cX9_wear 57 = .ok (.iload_n 3, 1) := by decide +kernel
theorem dX9_wear_58 : decode cX9_wear 58 = .ok (.iload 5, 2) := by decide +kernel
theorem dX9_wear_60 : decode cX9_wear 60 = .ok (.iadd, 1) := by decide +kernel
theorem dX9_wear_61 : decode cX9_wear 61 = .ok (.iconst 1, 1) := by decide +kernel
theorem dX9_wear_62 : decode cX9_wear 62 = .ok (.isub, 1) := by decide +kernel
theorem dX9_wear_63 : decode cX9_wear 63 = .ok (.iaload, 1) := by decide +kernel
theorem dX9_wear_64 : decode cX9_wear 64 = .ok (.iastore, 1) := by decide +kernel
theorem dX9_wear_65 : decode cX9_wear 65 = .ok (.iinc 5 (-1), 3) := by decide +kernel
theorem dX9_wear_68 : decode cX9_wear 68 = .ok (.goto (-28), 3) := by decide +kernel
theorem dX9_wear_71 : decode cX9_wear 71 = .ok (.aload_n 0, 1) := by decide +kernel
theorem dX9_wear_72 : decode cX9_wear 72 = .ok (.getfield 26, 3) := by decide +kernel
theorem dX9_wear_75 : decode cX9_wear 75 = .ok (.iload_n 3, 1) := by decide +kernel
theorem dX9_wear_76 : decode cX9_wear 76 = .ok (.iconst 0, 1) := by decide +kernel
theorem dX9_wear_77 : decode cX9_wear 77 = .ok (.iastore, 1) := by decide +kernel
theorem dX9_wear_78 : decode cX9_wear 78 = .ok (.aload_n 0, 1) := by decide +kernel
theorem dX9_wear_79 : decode cX9_wear 79 = .ok (.getfield 26, 3) := by decide +kernel
theorem dX9_wear_82 : decode cX9_wear 82 = .ok (.iload_n 3, 1) := by decide +kernel
theorem dX9_wear_83 : decode cX9_wear 83 = .ok (.bipush 9, 2) := by decide +kernel
theorem dX9_wear_85 : decode cX9_wear 85 = .ok (.iadd, 1) := by decide +kernel
theorem dX9_wear_86 : decode cX9_wear 86 = .ok (.iload 4, 2) := by decide +kernel
theorem dX9_wear_88 : decode cX9_wear 88 = .ok (.bipush 99, 2) := by decide +kernel
theorem dX9_wear_90 : decode cX9_wear 90 = .ok (.if_icmp .le 8, 3) := by decide +kernel
theorem dX9_wear_93 : decode cX9_wear 93 = .ok (.bipush 99, 2) := by decide +kernel
theorem dX9_wear_95 : decode cX9_wear 95 = .ok (.goto 5, 3) := by decide +kernel
theorem dX9_wear_98 : decode cX9_wear 98 = .ok (.iload 4, 2) := by decide +kernel
theorem dX9_wear_100 : decode cX9_wear 100 = .ok (.iastore, 1) := by decide +kernel
theorem dX9_wear_101 : decode cX9_wear 101 = .ok (.iinc 2 1, 3) := by decide +kernel
theorem dX9_wear_104 : decode cX9_wear 104 = .ok (.goto (-102), 3) := by decide +kernel
theorem dX9_wear_107 : decode cX9_wear 107 = .ok (.return_, 1) := by decide +kernel
theorem iX9_wear_9 : ∀ w ∈ wsX90, w ∈ wsX9_wear := fun w h => List.mem_cons_of_mem _ (List.mem_append_right _ h)
theorem fX9_wear_26 : FL mX9_wear 26 9 13 := ⟨_, _, _, rfl, by decide, iX9_wear_9, by decide +kernel⟩
abbrev mX9_year : mT := (yX9_year, RX9, cX9_year, 3, (some .int), wsX9_year)
abbrev rX9_year : Room := { frames := 1, cells := 0, slots := 0, locals := 25 }
theorem dX9_year_0 : decode cX9_year 0 = .ok (.iload_n 1, 1) := by decide +kernel
theorem dX9_year_1 : decode cX9_year 1 = .ok (.i2l, 1) := by decide +kernel
theorem dX9_year_2 : decode cX9_year 2 = .ok (.lconst 1, 1) := by decide +kernel
theorem dX9_year_3 : decode cX9_year 3 = .ok (.ldc2_w 199, 3) := by decide +kernel
theorem dX9_year_6 : decode cX9_year 6 = .ok (.invokestatic 60, 3) := by decide +kernel
theorem dX9_year_9 : decode cX9_year 9 = .ok (.ifCond .ne 5, 3) := by decide +kernel
theorem dX9_year_12 : decode cX9_year 12 = .ok (.iconst (-1), 1) := by decide +kernel
theorem dX9_year_13 : decode cX9_year 13 = .ok (.ireturn, 1) := by decide +kernel
theorem dX9_year_14 : decode cX9_year 14 = .ok (.aload_n 0, 1) := by decide +kernel
theorem dX9_year_15 : decode cX9_year 15 = .ok (.getfield 32, 3) := by decide +kernel
theorem dX9_year_18 : decode cX9_year 18 = .ok (.iconst 0, 1) := by decide +kernel
theorem dX9_year_19 : decode cX9_year 19 = .ok (.iaload, 1) := by decide +kernel
theorem dX9_year_20 : decode cX9_year 20 = .ok (.iload_n 1, 1) := by decide +kernel
theorem dX9_year_21 : decode cX9_year 21 = .ok (.iadd, 1) := by decide +kernel
theorem dX9_year_22 : decode cX9_year 22 = .ok (.sipush 1000, 3) := by decide +kernel
theorem dX9_year_25 : decode cX9_year 25 = .ok (.if_icmp .le 6, 3) := by decide +kernel
theorem dX9_year_28 : decode cX9_year 28 = .ok (.bipush (-2), 2) := by decide +kernel
theorem dX9_year_30 : decode cX9_year 30 = .ok (.ireturn, 1) := by decide +kernel
theorem dX9_year_31 : decode cX9_year 31 = .ok (.iconst 0, 1) := by decide +kernel
theorem dX9_year_32 : decode cX9_year 32 = .ok (.istore_n 2, 1) := by decide +kernel
theorem dX9_year_33 : decode cX9_year 33 = .ok (.iload_n 2, 1) := by decide +kernel
theorem dX9_year_34 : decode cX9_year 34 = .ok (.iload_n 1, 1) := by decide +kernel
theorem dX9_year_35 : decode cX9_year 35 = .ok (.if_icmp .ge 40, 3) := by decide +kernel
theorem dX9_year_38 : decode cX9_year 38 = .ok (.aload_n 0, 1) := by decide +kernel
theorem dX9_year_39 : decode cX9_year 39 = .ok (.getfield 32, 3) := by decide +kernel
theorem dX9_year_42 : decode cX9_year 42 = .ok (.iconst 0, 1) := by decide +kernel
theorem dX9_year_43 : decode cX9_year 43 = .ok (.dup2, 1) := by decide +kernel
theorem dX9_year_44 : decode cX9_year 44 = .ok (.iaload, 1) := by decide +kernel
theorem dX9_year_45 : decode cX9_year 45 = .ok (.iconst 1, 1) := by decide +kernel
theorem dX9_year_46 : decode cX9_year 46 = .ok (.iadd, 1) := by decide +kernel
theorem dX9_year_47 : decode cX9_year 47 = .ok (.iastore, 1) := by decide +kernel
theorem dX9_year_48 : decode cX9_year 48 = .ok (.aload_n 0, 1) := by decide +kernel
theorem dX9_year_49 : decode cX9_year 49 = .ok (.getfield 32, 3) := by decide +kernel
theorem dX9_year_52 : decode cX9_year 52 = .ok (.iconst 0, 1) := by decide +kernel
theorem dX9_year_53 : decode cX9_year 53 = .ok (.iaload, 1) := by decide +kernel
theorem dX9_year_54 : decode cX9_year 54 = .ok (.aload_n 0, 1) := by decide +kernel
theorem dX9_year_55 : decode cX9_year 55 = .ok (.getfield 39, 3) := by decide +kernel
theorem dX9_year_58 : decode cX9_year 58 = .ok (.iconst 5, 1) := by decide +kernel
theorem dX9_year_59 : decode cX9_year 59 = .ok (.iaload, 1) := by decide +kernel
theorem dX9_year_60 : decode cX9_year 60 = .ok (.irem, 1) := by decide +kernel
theorem dX9_year_61 : decode cX9_year 61 = .ok (.ifCond .ne 8, 3) := by decide +kernel
theorem dX9_year_64 : decode cX9_year 64 = .ok (.aload_n 0, 1) := by decide +kernel
theorem dX9_year_65 : decode cX9_year 65 = .ok (.iconst 0, 1) := by decide +kernel
theorem dX9_year_66 : decode cX9_year 66 = .ok (.invokevirtual 201, 3) := by decide +kernel
theorem dX9_year_69 : decode cX9_year 69 = .ok (.iinc 2 1, 3) := by decide +kernel
theorem dX9_year_72 : decode cX9_year 72 = .ok (.goto (-39), 3) := by decide +kernel
theorem dX9_year_75 : decode cX9_year 75 = .ok (.aload_n 0, 1) := by decide +kernel
theorem dX9_year_76 : decode cX9_year 76 = .ok (.getfield 32, 3) := by decide +kernel
theorem dX9_year_79 : decode cX9_year 79 = .ok (.iconst 0, 1) := by decide +kernel
theorem dX9_year_80 : decode cX9_year 80 = .ok (.iaload, 1) := by decide +kernel
theorem dX9_year_81 : decode cX9_year 81 = .ok (.ireturn, 1) := by decide +kernel
theorem iX9_year_9 : ∀ w ∈ wsX90, w ∈ wsX9_year := fun w h => List.mem_cons_of_mem _ (List.mem_append_right _ h)
theorem fX9_year_32 : FL mX9_year 32 9 15 := ⟨_, _, _, rfl, by decide, iX9_year_9, by decide +kernel⟩
theorem fX9_year_39 : FL mX9_year 39 9 17 := ⟨_, _, _, rfl, by decide, iX9_year_9, by decide +kernel⟩
set_option maxRecDepth 20000 in
theorem ggX9_year_X9_in : GoodIn wsX9_year wsX9_in := goodIn_r _ [7] (by decide +kernel) (by decide +kernel)
set_option maxRecDepth 20000 in
theorem gX9_year_X9_in : GoodIn wsX9_year (va_wsS RX9 60 yX9_in wsX9_in) := goodIn_app (goodIn_of _ (by decide +kernel)) ggX9_year_X9_in
theorem wX9_year_60 : CWS mX9_year 60 mX9_in 3 := ⟨gX9_year_X9_in, ⟨_, rfl⟩, by decide +kernel, by decide +kernel, by decide +kernel⟩
set_option maxRecDepth 20000 in
theorem ggX9_year_X9_wear : GoodIn wsX9_year wsX9_wear := goodIn_r _ [11, 12, 13, 14, 15, 16, 17, 18, 19, 20, 21, 22, 23, 24, 25, 26, 27, 28, 29, 30, 31, 32, 33, 34, 35, 36, 37] (by decide +kernel) (by decide +kernel)
set_option maxRecDepth 20000 in
theorem gX9_year_X9_wear : GoodIn wsX9_year (wsV RX9 201 RX9 yX9_wear wsX9_wear) := goodIn_app (goodIn_of _ (by decide +kernel)) ggX9_year_X9_wear
theorem wX9_year_201 : CWV mX9_year 201 mX9_wear 1 := ⟨gX9_year_X9_wear, ⟨_, rfl⟩, rfl, by decide +kernel, by decide +kernel, by decide +kernel⟩
abbrev mX9_there : mT := (yX9_there, RX9, cX9_there, 3, (some .int), wsX9_there)
abbrev rX9_there : Room := { frames := 1, cells := 0, slots := 0, locals := 23 }
theorem dX9_there_0 : decode cX9_there 0 = .ok (.iconst 0, 1) := by decide +kernel
theorem dX9_there_1 : decode cX9_there 1 = .ok (.istore_n 1, 1) := by decide +kernel
theorem dX9_there_2 : decode cX9_there 2 = .ok (.iconst 0, 1) := by decide +kernel
theorem dX9_there_3 : decode cX9_there 3 = .ok (.istore_n 2, 1) := by decide +kernel
theorem dX9_there_4 : decode cX9_there 4 = .ok (.iload_n 2, 1) := by decide +kernel
theorem dX9_there_5 : decode cX9_there 5 = .ok (.bipush 10, 2) := by decide +kernel
theorem dX9_there_7 : decode cX9_there 7 = .ok (.if_icmp .ge 22, 3) := by decide +kernel
theorem dX9_there_10 : decode cX9_there 10 = .ok (.iload_n 1, 1) := by decide +kernel
theorem dX9_there_11 : decode cX9_there 11 = .ok (.aload_n 0, 1) := by decide +kernel
theorem dX9_there_12 : decode cX9_there 12 = .ok (.iload_n 2, 1) := by decide +kernel
theorem dX9_there_13 : decode cX9_there 13 = .ok (.invokevirtual 131, 3) := by decide +kernel
theorem dX9_there_16 : decode cX9_there 16 = .ok (.bipush 10, 2) := by decide +kernel
theorem dX9_there_18 : decode cX9_there 18 = .ok (.iload_n 2, 1) := by decide +kernel
theorem dX9_there_19 : decode cX9_there 19 = .ok (.isub, 1) := by decide +kernel
theorem dX9_there_20 : decode cX9_there 20 = .ok (.imul, 1) := by decide +kernel
theorem dX9_there_21 : decode cX9_there 21 = .ok (.iadd, 1) := by decide +kernel
theorem dX9_there_22 : decode cX9_there 22 = .ok (.istore_n 1, 1) := by decide +kernel
theorem dX9_there_23 : decode cX9_there 23 = .ok (.iinc 2 1, 3) := by decide +kernel
theorem dX9_there_26 : decode cX9_there 26 = .ok (.goto (-22), 3) := by decide +kernel
theorem dX9_there_29 : decode cX9_there 29 = .ok (.iload_n 1, 1) := by decide +kernel
theorem dX9_there_30 : decode cX9_there 30 = .ok (.ireturn, 1) := by decide +kernel
set_option maxRecDepth 20000 in
theorem ggX9_there_X9_ofAll : GoodIn wsX9_there wsX9_ofAll := goodIn_r _ [5, 6, 7, 8, 9, 10, 11, 12, 13, 14, 15, 16, 17, 18, 19, 20, 21, 22, 23, 24, 25, 26, 27, 28, 29, 30, 31, 32] (by decide +kernel) (by decide +kernel)
set_option maxRecDepth 20000 in
theorem gX9_there_X9_ofAll : GoodIn wsX9_there (wsV RX9 131 RX9 yX9_ofAll wsX9_ofAll) := goodIn_app (goodIn_of _ (by decide +kernel)) ggX9_there_X9_ofAll
theorem wX9_there_131 : CWV mX9_there 131 mX9_ofAll 1 := ⟨gX9_there_X9_ofAll, ⟨_, rfl⟩, rfl, by decide +kernel, by decide +kernel, by decide +kernel⟩
abbrev mX9_mean : mT := (yX9_mean, RX9, cX9_mean, 2, (some .long), wsX9_mean)
abbrev rX9_mean : Room := { frames := 2, cells := 0, slots := 0, locals := 55 }
theorem dX9_mean_0 : decode cX9_mean 0 = .ok (.iload_n 1, 1) := by decide +kernel
theorem dX9_mean_1 : decode cX9_mean 1 = .ok (.i2l, 1) := by decide +kernel
theorem dX9_mean_2 : decode cX9_mean 2 = .ok (.lconst 0, 1) := by decide +kernel
theorem dX9_mean_3 : decode cX9_mean 3 = .ok (.lconst 1, 1) := by decide +kernel
theorem dX9_mean_4 : decode cX9_mean 4 = .ok (.invokestatic 60, 3) := by decide +kernel
theorem dX9_mean_7 : decode cX9_mean 7 = .ok (.ifCond .eq 10, 3) := by decide +kernel
theorem dX9_mean_10 : decode cX9_mean 10 = .ok (.aload_n 0, 1) := by decide +kernel
theorem dX9_mean_11 : decode cX9_mean 11 = .ok (.invokevirtual 164, 3) := by decide +kernel
theorem dX9_mean_14 : decode cX9_mean 14 = .ok (.ifCond .ne 9, 3) := by decide +kernel
theorem dX9_mean_17 : decode cX9_mean 17 = .ok (.ldc2_w 167, 3) := by decide +kernel
theorem dX9_mean_20 : decode cX9_mean 20 = .ok (.goto 17, 3) := by decide +kernel
theorem dX9_mean_23 : decode cX9_mean 23 = .ok (.aload_n 0, 1) := by decide +kernel
theorem dX9_mean_24 : decode cX9_mean 24 = .ok (.invokevirtual 205, 3) := by decide +kernel
theorem dX9_mean_27 : decode cX9_mean 27 = .ok (.i2l, 1) := by decide +kernel
theorem dX9_mean_28 : decode cX9_mean 28 = .ok (.aload_n 0, 1) := by decide +kernel
theorem dX9_mean_29 : decode cX9_mean 29 = .ok (.invokevirtual 164, 3) := by decide +kernel
theorem dX9_mean_32 : decode cX9_mean 32 = .ok (.i2l, 1) := by decide +kernel
theorem dX9_mean_33 : decode cX9_mean 33 = .ok (.iload_n 1, 1) := by decide +kernel
theorem dX9_mean_34 : decode cX9_mean 34 = .ok (.invokestatic 178, 3) := by decide +kernel
theorem dX9_mean_37 : decode cX9_mean 37 = .ok (.lreturn, 1) := by decide +kernel
set_option maxRecDepth 20000 in
theorem ggX9_mean_X9_in : GoodIn wsX9_mean wsX9_in := goodIn_r _ [5] (by decide +kernel) (by decide +kernel)
set_option maxRecDepth 20000 in
theorem gX9_mean_X9_in : GoodIn wsX9_mean (va_wsS RX9 60 yX9_in wsX9_in) := goodIn_app (goodIn_of _ (by decide +kernel)) ggX9_mean_X9_in
theorem wX9_mean_60 : CWS mX9_mean 60 mX9_in 3 := ⟨gX9_mean_X9_in, ⟨_, rfl⟩, by decide +kernel, by decide +kernel, by decide +kernel⟩
set_option maxRecDepth 20000 in
theorem ggX9_mean_X9_allCoins : GoodIn wsX9_mean wsX9_allCoins := goodIn_r _ [9, 10, 11, 12, 4, 13, 14, 15, 26, 27, 28, 29, 30, 31, 32, 33, 34, 35, 36, 37, 38, 39, 40, 41, 42, 43, 44, 45, 46, 47, 48, 49, 50] (by decide +kernel) (by decide +kernel)
set_option maxRecDepth 20000 in
theorem gX9_mean_X9_allCoins : GoodIn wsX9_mean (wsV RX9 164 RX9 yX9_allCoins wsX9_allCoins) := goodIn_app (goodIn_of _ (by decide +kernel)) ggX9_mean_X9_allCoins
theorem wX9_mean_164 : CWV mX9_mean 164 mX9_allCoins 0 := ⟨gX9_mean_X9_allCoins, ⟨_, rfl⟩, rfl, by decide +kernel, by decide +kernel, by decide +kernel⟩
set_option maxRecDepth 20000 in
theorem ggX9_mean_X9_inLeast : GoodIn wsX9_mean wsX9_inLeast := goodIn_r _ [22, 23, 24, 4, 25] (by decide +kernel) (by decide +kernel)
set_option maxRecDepth 20000 in
theorem gX9_mean_X9_inLeast : GoodIn wsX9_mean (va_wsS RX9 178 yX9_inLeast wsX9_inLeast) := goodIn_app (goodIn_of _ (by decide +kernel)) ggX9_mean_X9_inLeast
theorem wX9_mean_178 : CWS mX9_mean 178 mX9_inLeast 3 := ⟨gX9_mean_X9_inLeast, ⟨_, rfl⟩, by decide +kernel, by decide +kernel, by decide +kernel⟩
set_option maxRecDepth 20000 in
theorem ggX9_mean_X9_there : GoodIn wsX9_mean wsX9_there := goodIn_r _ [19, 10, 11, 12, 4, 13, 14, 15, 26, 27, 28, 29, 30, 31, 32, 33, 34, 35, 36, 37, 38, 39, 40, 41, 42, 43, 44, 45, 46, 47, 48, 49, 50] (by decide +kernel) (by decide +kernel)
set_option maxRecDepth 20000 in
theorem gX9_mean_X9_there : GoodIn wsX9_mean (wsV RX9 205 RX9 yX9_there wsX9_there) := goodIn_app (goodIn_of _ (by decide +kernel)) ggX9_mean_X9_there
theorem wX9_mean_205 : CWV mX9_mean 205 mX9_there 0 := ⟨gX9_mean_X9_there, ⟨_, rfl⟩, rfl, by decide +kernel, by decide +kernel, by decide +kernel⟩
abbrev mX9_trace : mT := (yX9_trace, RX9, cX9_trace, 1, (some .long), wsX9_trace)
abbrev rX9_trace : Room := { frames := 0, cells := 0, slots := 0, locals := 0 }
theorem dX9_trace_0 : decode cX9_trace 0 = .ok (.aload_n 0, 1) := by decide +kernel
theorem dX9_trace_1 : decode cX9_trace 1 = .ok (.getfield 230, 3) := by decide +kernel
theorem dX9_trace_4 : decode cX9_trace 4 = .ok (.lreturn, 1) := by decide +kernel
theorem iX9_trace_9 : ∀ w ∈ wsX90, w ∈ wsX9_trace := fun w h => List.mem_cons_of_mem _ (List.mem_append_right _ h)
theorem fX9_trace_230 : FL mX9_trace 230 9 0 := ⟨_, _, _, rfl, by decide, iX9_trace_9, by decide +kernel⟩
abbrev mX9_copy : mT := (yX9_copy, RX9, cX9_copy, 4, none, wsX9_copy)
abbrev rX9_copy : Room := { frames := 0, cells := 0, slots := 0, locals := 0 }
theorem dX9_copy_0 : decode cX9_copy 0 = .ok (.iconst 0, 1) := by decide +kernel
theorem dX9_copy_1 : decode cX9_copy 1 = .ok (.istore_n 3, 1) := by decide +kernel
theorem dX9_copy_2 : decode cX9_copy 2 = .ok (.iload_n 3, 1) := by decide +kernel
theorem dX9_copy_3 : decode cX9_copy 3 = .ok (.bipush 80, 2) := by decide +kernel
theorem dX9_copy_5 : decode cX9_copy 5 = .ok (.if_icmp .ge 31, 3) := by decide +kernel
theorem dX9_copy_8 : decode cX9_copy 8 = .ok (.aload_n 0, 1) := by decide +kernel
theorem dX9_copy_9 : decode cX9_copy 9 = .ok (.getfield 26, 3) := by decide +kernel
theorem dX9_copy_12 : decode cX9_copy 12 = .ok (.bipush 80, 2) := by decide +kernel
theorem dX9_copy_14 : decode cX9_copy 14 = .ok (.iload_n 2, 1) := by decide +kernel
theorem dX9_copy_15 : decode cX9_copy 15 = .ok (.imul, 1) := by decide +kernel
theorem dX9_copy_16 : decode cX9_copy 16 = .ok (.iload_n 3, 1) := by decide +kernel
theorem dX9_copy_17 : decode cX9_copy 17 = .ok (.iadd, 1) := by decide +kernel
theorem dX9_copy_18 : decode cX9_copy 18 = .ok (.aload_n 0, 1) := by decide +kernel
theorem dX9_copy_19 : decode cX9_copy 19 = .ok (.getfield 26, 3) := by decide +kernel
theorem dX9_copy_22 : decode cX9_copy 22 = .ok (.bipush 80, 2) := by decide +kernel
theorem dX9_copy_24 : decode cX9_copy 24 = .ok (.iload_n 1, 1) := by decide +kernel
theorem dX9_copy_25 : decode cX9_copy 25 = .ok (.imul, 1) := by decide +kernel
theorem dX9_copy_26 : decode cX9_copy 26 = .ok (.iload_n 3, 1) := by decide +kernel
theorem dX9_copy_27 : decode cX9_copy 27 = .ok (.iadd, 1) := by decide +kernel
theorem dX9_copy_28 : decode cX9_copy 28 = .ok (.iaload, 1) := by decide +kernel
theorem dX9_copy_29 : decode cX9_copy 29 = .ok (.iastore, 1) := by decide +kernel
theorem dX9_copy_30 : decode cX9_copy 30 = .ok (.iinc 3 1, 3) := by decide +kernel
theorem dX9_copy_33 : decode cX9_copy 33 = .ok (.goto (-31), 3) := by decide +kernel
theorem dX9_copy_36 : decode cX9_copy 36 = .ok (.aload_n 0, 1) := by decide +kernel
theorem dX9_copy_37 : decode cX9_copy 37 = .ok (.getfield 29, 3) := by decide +kernel
theorem dX9_copy_40 : decode cX9_copy 40 = .ok (.iload_n 2, 1) := by decide +kernel
theorem dX9_copy_41 : decode cX9_copy 41 = .ok (.aload_n 0, 1) := by decide +kernel
theorem dX9_copy_42 : decode cX9_copy 42 = .ok (.getfield 29, 3) := by decide +kernel
theorem dX9_copy_45 : decode cX9_copy 45 = .ok (.iload_n 1, 1) := by decide +kernel
theorem dX9_copy_46 : decode cX9_copy 46 = .ok (.iaload, 1) := by decide +kernel
theorem dX9_copy_47 : decode cX9_copy 47 = .ok (.iastore, 1) := by decide +kernel
theorem dX9_copy_48 : decode cX9_copy 48 = .ok (.aload_n 0, 1) := by decide +kernel
theorem dX9_copy_49 : decode cX9_copy 49 = .ok (.getfield 32, 3) := by decide +kernel
theorem dX9_copy_52 : decode cX9_copy 52 = .ok (.iload_n 2, 1) := by decide +kernel
theorem dX9_copy_53 : decode cX9_copy 53 = .ok (.aload_n 0, 1) := by decide +kernel
theorem dX9_copy_54 : decode cX9_copy 54 = .ok (.getfield 32, 3) := by decide +kernel
theorem dX9_copy_57 : decode cX9_copy 57 = .ok (.iload_n 1, 1) := by decide +kernel
theorem dX9_copy_58 : decode cX9_copy 58 = .ok (.iaload, 1) := by decide +kernel
theorem dX9_copy_59 : decode cX9_copy 59 = .ok (.iastore, 1) := by decide +kernel
theorem dX9_copy_60 : decode cX9_copy 60 = .ok (.return_, 1) := by decide +kernel
theorem iX9_copy_9 : ∀ w ∈ wsX90, w ∈ wsX9_copy := fun w h => List.mem_cons_of_mem _ (List.mem_append_right _ h)
theorem fX9_copy_26 : FL mX9_copy 26 9 13 := ⟨_, _, _, rfl, by decide, iX9_copy_9, by decide +kernel⟩
theorem fX9_copy_29 : FL mX9_copy 29 9 14 := ⟨_, _, _, rfl, by decide, iX9_copy_9, by decide +kernel⟩
theorem fX9_copy_32 : FL mX9_copy 32 9 15 := ⟨_, _, _, rfl, by decide, iX9_copy_9, by decide +kernel⟩
abbrev mX9_law : mT := (yX9_law, RX9, cX9_law, 5, (some .int), wsX9_law)
abbrev rX9_law : Room := { frames := 1, cells := 0, slots := 0, locals := 25 }
theorem dX9_law_0 : decode cX9_law 0 = .ok (.iload_n 1, 1) := by decide +kernel
theorem dX9_law_1 : decode cX9_law 1 = .ok (.i2l, 1) := by decide +kernel
theorem dX9_law_2 : decode cX9_law 2 = .ok (.lconst 0, 1) := by decide +kernel
theorem dX9_law_3 : decode cX9_law 3 = .ok (.ldc2_w 58, 3) := by decide +kernel
theorem dX9_law_6 : decode cX9_law 6 = .ok (.invokestatic 60, 3) := by decide +kernel
theorem dX9_law_9 : decode cX9_law 9 = .ok (.ifCond .eq 27, 3) := by decide +kernel
theorem dX9_law_12 : decode cX9_law 12 = .ok (.iload_n 2, 1) := by decide +kernel
theorem dX9_law_13 : decode cX9_law 13 = .ok (.i2l, 1) := by decide +kernel
theorem dX9_law_14 : decode cX9_law 14 = .ok (.lconst 0, 1) := by decide +kernel
theorem dX9_law_15 : decode cX9_law 15 = .ok (.ldc2_w 194, 3) := by decide +kernel
theorem dX9_law_18 : decode cX9_law 18 = .ok (.invokestatic 60, 3) := by decide +kernel
theorem dX9_law_21 : decode cX9_law 21 = .ok (.ifCond .eq 15, 3) := by decide +kernel
theorem dX9_law_24 : decode cX9_law 24 = .ok (.iload_n 3, 1) := by decide +kernel
theorem dX9_law_25 : decode cX9_law 25 = .ok (.i2l, 1) := by decide +kernel
theorem dX9_law_26 : decode cX9_law 26 = .ok (.lconst 0, 1) := by decide +kernel
theorem dX9_law_27 : decode cX9_law 27 = .ok (.ldc2_w 127, 3) := by decide +kernel
theorem dX9_law_30 : decode cX9_law 30 = .ok (.invokestatic 60, 3) := by decide +kernel
theorem dX9_law_33 : decode cX9_law 33 = .ok (.ifCond .ne 5, 3) := by decide +kernel
theorem dX9_law_36 : decode cX9_law 36 = .ok (.iconst (-1), 1) := by decide +kernel
theorem dX9_law_37 : decode cX9_law 37 = .ok (.ireturn, 1) := by decide +kernel
theorem dX9_law_38 : decode cX9_law 38 = .ok (.aload_n 0, 1) := by decide +kernel
theorem dX9_law_39 : decode cX9_law 39 = .ok (.getfield 55, 3) := by decide +kernel
theorem dX9_law_42 : decode cX9_law 42 = .ok (.iconst 3, 1) := by decide +kernel
theorem dX9_law_43 : decode cX9_law 43 = .ok (.iload_n 1, 1) := by decide +kernel
theorem dX9_law_44 : decode cX9_law 44 = .ok (.imul, 1) := by decide +kernel
theorem dX9_law_45 : decode cX9_law 45 = .ok (.iload_n 2, 1) := by decide +kernel
theorem dX9_law_46 : decode cX9_law 46 = .ok (.iadd, 1) := by decide +kernel
theorem dX9_law_47 : decode cX9_law 47 = .ok (.iaload, 1) := by decide +kernel
theorem dX9_law_48 : decode cX9_law 48 = .ok (.istore 4, 2) := by decide +kernel
theorem dX9_law_50 : decode cX9_law 50 = .ok (.aload_n 0, 1) := by decide +kernel
theorem dX9_law_51 : decode cX9_law 51 = .ok (.getfield 55, 3) := by decide +kernel
theorem dX9_law_54 : decode cX9_law 54 = .ok (.iconst 3, 1) := by decide +kernel
theorem dX9_law_55 : decode cX9_law 55 = .ok (.iload_n 1, 1) := by decide +kernel
theorem dX9_law_56 : decode cX9_law 56 = .ok (.imul, 1) := by decide +kernel
theorem dX9_law_57 : decode cX9_law 57 = .ok (.iload_n 2, 1) := by decide +kernel
theorem dX9_law_58 : decode cX9_law 58 = .ok (.iadd, 1) := by decide +kernel
theorem dX9_law_59 : decode cX9_law 59 = .ok (.iload_n 3, 1) := by decide +kernel
theorem dX9_law_60 : decode cX9_law 60 = .ok (.iastore, 1) := by decide +kernel
theorem dX9_law_61 : decode cX9_law 61 = .ok (.iload 4, 2) := by decide +kernel
theorem dX9_law_63 : decode cX9_law 63 = .ok (.ireturn, 1) := by decide +kernel
theorem iX9_law_9 : ∀ w ∈ wsX90, w ∈ wsX9_law := fun w h => List.mem_cons_of_mem _ (List.mem_append_right _ h)
theorem fX9_law_55 : FL mX9_law 55 9 23 := ⟨_, _, _, rfl, by decide, iX9_law_9, by decide +kernel⟩
set_option maxRecDepth 20000 in
theorem ggX9_law_X9_in : GoodIn wsX9_law wsX9_in := goodIn_r _ [8] (by decide +kernel) (by decide +kernel)
set_option maxRecDepth 20000 in
theorem gX9_law_X9_in : GoodIn wsX9_law (va_wsS RX9 60 yX9_in wsX9_in) := goodIn_app (goodIn_of _ (by decide +kernel)) ggX9_law_X9_in
theorem wX9_law_60 : CWS mX9_law 60 mX9_in 3 := ⟨gX9_law_X9_in, ⟨_, rfl⟩, by decide +kernel, by decide +kernel, by decide +kernel⟩
abbrev mX9_sumOf : mT := (yX9_sumOf, RX9, cX9_sumOf, 5, (some .int), wsX9_sumOf)
abbrev rX9_sumOf : Room := { frames := 0, cells := 0, slots := 0, locals := 0 }
theorem dX9_sumOf_0 : decode cX9_sumOf 0 = .ok (.iconst 0, 1) := by decide +kernel
theorem dX9_sumOf_1 : decode cX9_sumOf 1 = .ok (.istore_n 3, 1) := by decide +kernel
theorem dX9_sumOf_2 : decode cX9_sumOf 2 = .ok (.iconst 0, 1) := by decide +kernel
theorem dX9_sumOf_3 : decode cX9_sumOf 3 = .ok (.istore 4, 2) := by decide +kernel
theorem dX9_sumOf_5 : decode cX9_sumOf 5 = .ok (.iload 4, 2) := by decide +kernel
theorem dX9_sumOf_7 : decode cX9_sumOf 7 = .ok (.bipush 9, 2) := by decide +kernel
theorem dX9_sumOf_9 : decode cX9_sumOf 9 = .ok (.if_icmp .ge 37, 3) := by decide +kernel
theorem dX9_sumOf_12 : decode cX9_sumOf 12 = .ok (.iload_n 3, 1) := by decide +kernel
theorem dX9_sumOf_13 : decode cX9_sumOf 13 = .ok (.iload_n 1, 1) := by decide +kernel
theorem dX9_sumOf_14 : decode cX9_sumOf 14 = .ok (.iload 4, 2) := by decide +kernel
theorem dX9_sumOf_16 : decode cX9_sumOf 16 = .ok (.ishr, 1) := by decide +kernel
theorem dX9_sumOf_17 : decode cX9_sumOf 17 = .ok (.iconst 1, 1) := by decide +kernel
theorem dX9_sumOf_18 : decode cX9_sumOf 18 = .ok (.iand, 1) := by decide +kernel
theorem dX9_sumOf_19 : decode cX9_sumOf 19 = .ok (.iconst 1, 1) := by decide +kernel
theorem dX9_sumOf_20 : decode cX9_sumOf 20 = .ok (.if_icmp .ne 17, 3) := by decide +kernel
theorem dX9_sumOf_23 : decode cX9_sumOf 23 = .ok (.aload_n 0, 1) := by decide +kernel
theorem dX9_sumOf_24 : decode cX9_sumOf 24 = .ok (.getfield 55, 3) := by decide +kernel
theorem dX9_sumOf_27 : decode cX9_sumOf 27 = .ok (.iconst 3, 1) := by decide +kernel
theorem dX9_sumOf_28 : decode cX9_sumOf 28 = .ok (.iload 4, 2) := by decide +kernel
theorem dX9_sumOf_30 : decode cX9_sumOf 30 = .ok (.imul, 1) := by decide +kernel
theorem dX9_sumOf_31 : decode cX9_sumOf 31 = .ok (.iload_n 2, 1) := by decide +kernel
theorem dX9_sumOf_32 : decode cX9_sumOf 32 = .ok (.iadd, 1) := by decide +kernel
theorem dX9_sumOf_33 : decode cX9_sumOf 33 = .ok (.iaload, 1) := by decide +kernel
theorem dX9_sumOf_34 : decode cX9_sumOf 34 = .ok (.goto 4, 3) := by decide +kernel
theorem dX9_sumOf_37 : decode cX9_sumOf 37 = .ok (.iconst 0, 1) := by decide +kernel
theorem dX9_sumOf_38 : decode cX9_sumOf 38 = .ok (.iadd, 1) := by decide +kernel
theorem dX9_sumOf_39 : decode cX9_sumOf 39 = .ok (.istore_n 3, 1) := by decide +kernel
theorem dX9_sumOf_40 : decode cX9_sumOf 40 = .ok (.iinc 4 1, 3) := by decide +kernel
theorem dX9_sumOf_43 : decode cX9_sumOf 43 = .ok (.goto (-38), 3) := by decide +kernel
theorem dX9_sumOf_46 : decode cX9_sumOf 46 = .ok (.iload_n 3, 1) := by decide +kernel
theorem dX9_sumOf_47 : decode cX9_sumOf 47 = .ok (.ireturn, 1) := by decide +kernel
theorem iX9_sumOf_9 : ∀ w ∈ wsX90, w ∈ wsX9_sumOf := fun w h => List.mem_cons_of_mem _ (List.mem_append_right _ h)
theorem fX9_sumOf_55 : FL mX9_sumOf 55 9 23 := ⟨_, _, _, rfl, by decide, iX9_sumOf_9, by decide +kernel⟩
abbrev mX9_heldAt : mT := (yX9_heldAt, RX9, cX9_heldAt, 8, (some .int), wsX9_heldAt)
abbrev rX9_heldAt : Room := { frames := 1, cells := 0, slots := 0, locals := 21 }
theorem dX9_heldAt_0 : decode cX9_heldAt 0 = .ok (.iconst 0, 1) := by decide +kernel
theorem dX9_heldAt_1 : decode cX9_heldAt 1 = .ok (.istore 4, 2) := by decide +kernel
theorem dX9_heldAt_3 : decode cX9_heldAt 3 = .ok (.iconst 0, 1) := by decide +kernel
theorem dX9_heldAt_4 : decode cX9_heldAt 4 = .ok (.istore 5, 2) := by decide +kernel
theorem dX9_heldAt_6 : decode cX9_heldAt 6 = .ok (.iconst 0, 1) := by decide +kernel
theorem dX9_heldAt_7 : decode cX9_heldAt 7 = .ok (.istore 6, 2) := by decide +kernel
theorem dX9_heldAt_9 : decode cX9_heldAt 9 = .ok (.iload 6, 2) := by decide +kernel
theorem dX9_heldAt_11 : decode cX9_heldAt 11 = .ok (.bipush 10, 2) := by decide +kernel
theorem dX9_heldAt_13 : decode cX9_heldAt 13 = .ok (.if_icmp .ge 70, 3) := by decide +kernel
theorem dX9_heldAt_16 : decode cX9_heldAt 16 = .ok (.aload_n 0, 1) := by decide +kernel
theorem dX9_heldAt_17 : decode cX9_heldAt 17 = .ok (.getfield 26, 3) := by decide +kernel
theorem dX9_heldAt_20 : decode cX9_heldAt 20 = .ok (.bipush 10, 2) := by decide +kernel
theorem dX9_heldAt_22 : decode cX9_heldAt 22 = .ok (.iload_n 1, 1) := by decide +kernel
theorem dX9_heldAt_23 : decode cX9_heldAt 23 = .ok (.imul, 1) := by decide +kernel
theorem dX9_heldAt_24 : decode cX9_heldAt 24 = .ok (.iload 6, 2) := by decide +kernel
theorem dX9_heldAt_26 : decode cX9_heldAt 26 = .ok (.iadd, 1) := by decide +kernel
theorem dX9_heldAt_27 : decode cX9_heldAt 27 = .ok (.iaload, 1) := by decide +kernel
theorem dX9_heldAt_28 : decode cX9_heldAt 28 = .ok (.istore 7, 2) := by decide +kernel
theorem dX9_heldAt_30 : decode cX9_heldAt 30 = .ok (.iload 4, 2) := by decide +kernel
theorem dX9_heldAt_32 : decode cX9_heldAt 32 = .ok (.iload 6, 2) := by decide +kernel
theorem dX9_heldAt_34 : decode cX9_heldAt 34 = .ok (.iload_n 3, 1) := by decide +kernel
theorem dX9_heldAt_35 : decode cX9_heldAt 35 = .ok (.if_icmp .ge 15, 3) := by decide +kernel
theorem dX9_heldAt_38 : decode cX9_heldAt 38 = .ok (.iload 7, 2) := by decide +kernel
theorem dX9_heldAt_40 : decode cX9_heldAt 40 = .ok (.aload_n 0, 1) := by decide +kernel
theorem dX9_heldAt_41 : decode cX9_heldAt 41 = .ok (.iload 6, 2) := by decide +kernel
theorem dX9_heldAt_43 : decode cX9_heldAt 43 = .ok (.invokevirtual 191, 3) := by decide +kernel
theorem dX9_heldAt_46 : decode cX9_heldAt 46 = .ok (.imul, 1) := by decide +kernel
theorem dX9_heldAt_47 : decode cX9_heldAt 47 = .ok (.goto 4, 3) := by decide +kernel
theorem dX9_heldAt_50 : decode cX9_heldAt 50 = .ok (.iconst 0, 1) := by decide +kernel
theorem dX9_heldAt_51 : decode cX9_heldAt 51 = .ok (.iadd, 1) := by decide +kernel
theorem dX9_heldAt_52 : decode cX9_heldAt 52 = .ok (.istore 4, 2) := by decide +kernel
theorem dX9_heldAt_54 : decode cX9_heldAt 54 = .ok (.iload 5, 2) := by decide +kernel
theorem dX9_heldAt_56 : decode cX9_heldAt 56 = .ok (.iload 6, 2) := by decide +kernel
theorem dX9_heldAt_58 : decode cX9_heldAt 58 = .ok (.iload_n 3, 1) := by decide +kernel
theorem dX9_heldAt_59 : decode cX9_heldAt 59 = .ok (.if_icmp .ge 7, 3) := by decide +kernel
theorem dX9_heldAt_62 : decode cX9_heldAt 62 = .ok (.iconst 0, 1) := by decide +kernel
theorem dX9_heldAt_63 : decode cX9_heldAt 63 = .ok (.goto 11, 3) := by decide +kernel
theorem dX9_heldAt_66 : decode cX9_heldAt 66 = .ok (.iload 7, 2) := by decide +kernel
theorem dX9_heldAt_68 : decode cX9_heldAt 68 = .ok (.bipush 10, 2) := by decide +kernel
theorem dX9_heldAt_70 : decode cX9_heldAt 70 = .ok (.iload 6, 2) := by decide +kernel
theorem dX9_heldAt_72 : decode cX9_heldAt 72 = .ok (.isub, 1) := by decide +kernel
theorem dX9_heldAt_73 : decode cX9_heldAt 73 = .ok (.imul, 1) := by decide +kernel
theorem dX9_heldAt_74 : decode cX9_heldAt 74 = .ok (.iadd, 1) := by decide +kernel
theorem dX9_heldAt_75 : decode cX9_heldAt 75 = .ok (.istore 5, 2) := by decide +kernel
theorem dX9_heldAt_77 : decode cX9_heldAt 77 = .ok (.iinc 6 1, 3) := by decide +kernel
theorem dX9_heldAt_80 : decode cX9_heldAt 80 = .ok (.goto (-71), 3) := by decide +kernel
theorem dX9_heldAt_83 : decode cX9_heldAt 83 = .ok (.iload 4, 2) := by decide +kernel
theorem dX9_heldAt_85 : decode cX9_heldAt 85 = .ok (.iload 5, 2) := by decide +kernel
theorem dX9_heldAt_87 : decode cX9_heldAt 87 = .ok (.bipush 100, 2) := by decide +kernel
theorem dX9_heldAt_89 : decode cX9_heldAt 89 = .ok (.iload_n 2, 1) := by decide +kernel
theorem dX9_heldAt_90 : decode cX9_heldAt 90 = .ok (.isub, 1) := by decide +kernel
theorem dX9_heldAt_91 : decode cX9_heldAt 91 = .ok (.imul, 1) := by decide +kernel
theorem dX9_heldAt_92 : decode cX9_heldAt 92 = .ok (.sipush 1000, 3) := by decide +kernel
theorem dX9_heldAt_95 : decode cX9_heldAt 95 = .ok (.idiv, 1) := by decide +kernel
theorem dX9_heldAt_96 : decode cX9_heldAt 96 = .ok (.bipush 10, 2) := by decide +kernel
theorem dX9_heldAt_98 : decode cX9_heldAt 98 = .ok (.imul, 1) := by decide +kernel
theorem dX9_heldAt_99 : decode cX9_heldAt 99 = .ok (.iadd, 1) := by decide +kernel
theorem dX9_heldAt_100 : decode cX9_heldAt 100 = .ok (.ireturn, 1) := by decide +kernel
theorem iX9_heldAt_9 : ∀ w ∈ wsX90, w ∈ wsX9_heldAt := fun w h => List.mem_cons_of_mem _ (List.mem_append_right _ h)
theorem fX9_heldAt_26 : FL mX9_heldAt 26 9 13 := ⟨_, _, _, rfl, by decide, iX9_heldAt_9, by decide +kernel⟩
set_option maxRecDepth 20000 in
theorem ggX9_heldAt_X9_asIs : GoodIn wsX9_heldAt wsX9_asIs := goodIn_r _ [6, 7, 8, 9, 10, 11, 12, 13, 14, 15, 16, 17, 18, 19, 20, 21, 22, 23, 24, 25, 26, 27, 28, 29, 30, 31, 32] (by decide +kernel) (by decide +kernel)
set_option maxRecDepth 20000 in
theorem gX9_heldAt_X9_asIs : GoodIn wsX9_heldAt (wsV RX9 191 RX9 yX9_asIs wsX9_asIs) := goodIn_app (goodIn_of _ (by decide +kernel)) ggX9_heldAt_X9_asIs
theorem wX9_heldAt_191 : CWV mX9_heldAt 191 mX9_asIs 1 := ⟨gX9_heldAt_X9_asIs, ⟨_, rfl⟩, rfl, by decide +kernel, by decide +kernel, by decide +kernel⟩
abbrev mX9_bitsIn : mT := (yX9_bitsIn, RX9, cX9_bitsIn, 3, (some .int), wsX9_bitsIn)
abbrev rX9_bitsIn : Room := { frames := 0, cells := 0, slots := 0, locals := 0 }
theorem dX9_bitsIn_0 : decode cX9_bitsIn 0 = .ok (.iconst 0, 1) := by decide +kernel
theorem dX9_bitsIn_1 : decode cX9_bitsIn 1 = .ok (.istore_n 1, 1) := by decide +kernel
theorem dX9_bitsIn_2 : decode cX9_bitsIn 2 = .ok (.iconst 0, 1) := by decide +kernel
theorem dX9_bitsIn_3 : decode cX9_bitsIn 3 = .ok (.istore_n 2, 1) := by decide +kernel
theorem dX9_bitsIn_4 : decode cX9_bitsIn 4 = .ok (.iload_n 2, 1) := by decide +kernel
theorem dX9_bitsIn_5 : decode cX9_bitsIn 5 = .ok (.bipush 8, 2) := by decide +kernel
theorem dX9_bitsIn_7 : decode cX9_bitsIn 7 = .ok (.if_icmp .ge 17, 3) := by decide +kernel
theorem dX9_bitsIn_10 : decode cX9_bitsIn 10 = .ok (.iload_n 1, 1) := by decide +kernel
theorem dX9_bitsIn_11 : decode cX9_bitsIn 11 = .ok (.iload_n 0, 1) := by decide +kernel
theorem dX9_bitsIn_12 : decode cX9_bitsIn 12 = .ok (.iload_n 2, 1) := by decide +kernel
theorem dX9_bitsIn_13 : decode cX9_bitsIn 13 = .ok (.ishr, 1) := by decide +kernel
theorem dX9_bitsIn_14 : decode cX9_bitsIn 14 = .ok (.iconst 1, 1) := by decide +kernel
theorem dX9_bitsIn_15 : decode cX9_bitsIn 15 = .ok (.iand, 1) := by decide +kernel
theorem dX9_bitsIn_16 : decode cX9_bitsIn 16 = .ok (.iadd, 1) := by decide +kernel
theorem dX9_bitsIn_17 : decode cX9_bitsIn 17 = .ok (.istore_n 1, 1) := by decide +kernel
theorem dX9_bitsIn_18 : decode cX9_bitsIn 18 = .ok (.iinc 2 1, 3) := by decide +kernel
theorem dX9_bitsIn_21 : decode cX9_bitsIn 21 = .ok (.goto (-17), 3) := by decide +kernel
theorem dX9_bitsIn_24 : decode cX9_bitsIn 24 = .ok (.iload_n 1, 1) := by decide +kernel
theorem dX9_bitsIn_25 : decode cX9_bitsIn 25 = .ok (.ireturn, 1) := by decide +kernel
theorem aJ_aI {Γ : gT} {N M : Nat} {f : Nat → Int64} {g : Nat → Int32} : aJ Γ N f ≠ aI Γ M g := by
  intro e
  injection e with e
  injection e with _ e
  injection e with _ e
  cases e
theorem aJ_aZ {Γ : gT} {N M : Nat} {f : Nat → Int64} {g : Nat → Int32} : aJ Γ N f ≠ aZ Γ M g := by
  intro e
  injection e with e
  injection e with _ e
  injection e with _ e
  cases e
theorem aZ_aI {Γ : gT} {N M : Nat} {f g : Nat → Int32} (h : N ≠ M) : aZ Γ N f ≠ aI Γ M g := by
  intro e
  injection e with e
  injection e with _ e
  injection e with e
  exact h e
def gwF (u : Nat → Int32) (g : Nat → Int64) (j : Nat) : Nat → Int64 := fun i => if 9 - j ≤ i ∧ i ≤ 9 then wrW u (9 - i) else g i
/-- whether weight i is clipped -/
def clB (u : Nat → Int32) (i : Nat) : Bool := decide ((asI u i).toInt64 * p10 (9 - i) < clS u i (wrW u (8 - i)))
def gcF (u c : Nat → Int32) (j : Nat) : Nat → Int32 := fun i => if i = 9 then 0 else if 9 - j ≤ i ∧ i < 9 then bI (clB u i) else c i
theorem gw_0 {u : Nat → Int32} {g : Nat → Int64} : vp_updL g 9 (asI u 9).toInt64 = gwF u g 0 := by
  funext i
  unfold gwF
  by_cases hi : i = 9
  · rw [hi, pk_uLs, if_pos (by omega)]; rfl
  · rw [pk_uLn hi, if_neg (by omega)]
theorem gw_s {u : Nat → Int32} {g : Nat → Int64} {j : Nat} (hj : j < 9) : vp_updL (gwF u g j) (8 - j) (wrW u (j + 1)) = gwF u g (j + 1) := by
  funext i
  unfold gwF
  by_cases hi : i = 8 - j
  · rw [hi, pk_uLs, if_pos (by omega), show 9 - (8 - j) = j + 1 by omega]
  · rw [pk_uLn hi]
    by_cases h : 9 - j ≤ i ∧ i ≤ 9
    · rw [if_pos h, if_pos (by omega)]
    · rw [if_neg h, if_neg (by omega)]
theorem gc_0 {u c : Nat → Int32} : upd c 9 0 = gcF u c 0 := by
  funext i
  unfold gcF
  by_cases hi : i = 9
  · rw [hi, pk_us, if_pos rfl]
  · rw [pk_un hi, if_neg hi, if_neg (by omega)]
theorem gc_s {u c : Nat → Int32} {j : Nat} (hj : j < 9) : upd (gcF u c j) (8 - j) (bI (clB u (8 - j))) = gcF u c (j + 1) := by
  funext i
  unfold gcF
  by_cases hi : i = 8 - j
  · rw [hi, pk_us, if_neg (by omega), if_pos (by omega)]
  · rw [pk_un hi]
    by_cases h9 : i = 9
    · rw [if_pos h9, if_pos h9]
    · rw [if_neg h9, if_neg h9]
      by_cases h : 9 - j ≤ i ∧ i < 9
      · rw [if_pos h, if_pos (by omega)]
      · rw [if_neg h, if_neg (by omega)]
theorem wrW_m {u : Nat → Int32} {j : Nat} : wrW u (j + 1) = if (asI u (8 - j)).toInt64 * p10 (j + 1) < clS u (8 - j) (wrW u j) then clS u (8 - j) (wrW u j) else (asI u (8 - j)).toInt64 * p10 (j + 1) := by
  simp only [wrW]
  by_cases h1 : (asI u (8 - j)).toInt64 * p10 (j + 1) < clS u (8 - j) (wrW u j)
  · rw [if_pos h1, if_neg (fun e => Int64.lt_irrefl (Int64.lt_trans h1 e))]
  · rw [if_neg h1]
    by_cases h2 : clS u (8 - j) (wrW u j) < (asI u (8 - j)).toInt64 * p10 (j + 1)
    · rw [if_pos h2]
    · rw [if_neg h2]
      exact Int64.le_antisymm (Int64.not_lt.mp h1) (Int64.not_lt.mp h2)
theorem clS_m {u : Nat → Int32} {j : Nat} {nw : Int64} (hj : j < 9) : -(u 3).toInt64 * (u 2).toInt64 * p10 j + (10 - (u 3).toInt64) * ((u 4).toInt64 * p10 j + nw) = clS u (8 - j) nw := by
  unfold clS
  rw [show 8 - (8 - j) = j by omega]
  generalize (u 3).toInt64 = a
  generalize (u 2).toInt64 = b
  generalize (10 - a) * ((u 4).toInt64 * p10 j + nw) = c
  generalize p10 j = d
  first
  | (rw [Int64.neg_mul, Int64.neg_mul, Int64.add_comm, Int64.sub_eq_add_neg]; done)
  | grind
theorem pl_m {u : Nat → Int32} {j : Nat} : (asI u (8 - j)).toInt64 * p10 j * 10 = (asI u (8 - j)).toInt64 * p10 (j + 1) := by
  show _ * p10 j * 10 = _ * (p10 j * 10)
  first | exact Int64.mul_assoc _ _ _ | grind
section
variable {Γ : gT} {l : Launch} {as : List Nat} {h : aH} {m : Nat} {tc : Int64} {r : Nat → Nat} {z : Nat → Int32} {n k : Nat} {f u c ya lw : Nat → Int32} {g : Nat → Int64}
theorem n_asIs (hM : hat as h m (mo tc r z)) (hu : hat as h (r 17) (aI Γ 6 u)) : Det Γ l mX9_asIs rX9_asIs [.ref m, .int (nI k)] as h (some (.int (asI u k))) h := by
  refine Con.of (by decide +kernel) rfl rfl (Nat.le_of_ble_eq_true rfl) ?_
  refine q_iload_n dX9_asIs_0 rfl rfl ?_
  refine q_aload_n dX9_asIs_1 rfl rfl ?_
  refine q_get dX9_asIs_2 fX9_asIs_39 (hM) rfl ?_
  refine q_iconst (v := 0) dX9_asIs_5 rfl ?_
  refine q_iald dX9_asIs_6 (hu) (in_nI (k := 0) (by omega) (by omega)) ?_
  refine q_icmp_gt 15 dX9_asIs_7 (by decide) (fun cA => ?_) (fun cA => ?_)
  · refine q_bipush (v := 10) dX9_asIs_15 rfl ?_
    refine q_iload_n dX9_asIs_17 rfl rfl ?_
    refine q_isub dX9_asIs_18 ?_
    exact q_iret dX9_asIs_19 rfl (Nat.zero_le _) (Nat.zero_le _) (⟨by unfold asI; first | rw [if_pos (show u 0 < nI k from cA)] | rw [if_neg (show ¬ u 0 < nI k from cA)], rfl, rfl⟩)
  · refine q_bipush (v := 10) dX9_asIs_10 rfl ?_
    refine q_goto 19 dX9_asIs_12 (by decide) ?_
    exact q_iret dX9_asIs_19 rfl (Nat.zero_le _) (Nat.zero_le _) (⟨by unfold asI; first | rw [if_pos (show u 0 < nI k from cA)] | rw [if_neg (show ¬ u 0 < nI k from cA)], rfl, rfl⟩)
theorem n_findWorth (hM : hat as h m (mo tc r z)) (hu : hat as h (r 17) (aI Γ 6 u)) (hg : hat as h (r 20) (aJ Γ 10 g)) (hc : hat as h (r 21) (aZ Γ 10 c)) : Det Γ l mX9_findWorth rX9_findWorth [.ref m] as h none (hset (hset h (r 20) (aJ Γ 10 (gwF u g 9))) (r 21) (aZ Γ 10 (gcF u c 9))) := by
  have e1 := hat_oa hM hg
  have e2 := hat_oa hM hc
  have e3 : r 17 ≠ r 20 := hat_un hu hg (fun e => aJ_aI e.symm)
  have e4 : r 17 ≠ r 21 := hat_un hu hc (fun e => aZ_aI (by decide) e.symm)
  have e5 : r 20 ≠ r 21 := hat_un hg hc aJ_aZ
  have xM : ∀ a b : va_E, hat as (hset (hset h (r 20) a) (r 21) b) m (mo tc r z) := fun a b => hat_ne (hat_ne hM e1) e2
  have xu : ∀ a b : va_E, hat as (hset (hset h (r 20) a) (r 21) b) (r 17) (aI Γ 6 u) := fun a b => hat_ne (hat_ne hu e3) e4
  have xg : ∀ a b : va_E, hat as (hset (hset h (r 20) a) (r 21) b) (r 20) a := fun a b => hat_ne (hat_set hg) e5
  have xc : ∀ a b : va_E, hat as (hset (hset h (r 20) a) (r 21) b) (r 21) b := fun a b => hat_set (hat_ne hc e5.symm)
  have sw : ∀ a b d : va_E, hset (hset (hset h (r 20) a) (r 21) b) (r 20) d = hset (hset h (r 20) d) (r 21) b := fun a b d => by rw [hset_comm e5, hset_hset]
  have key : ∀ (d j : Nat) (v1 : Int64) (v3 : Int32) (ls : List (Nat × Value)) (h' : aH), j + d = 9 → v1 = p10 j → v3 + 1 = nI (9 - j) → h' = hset (hset h (r 20) (aJ Γ 10 (gwF u g j))) (r 21) (aZ Γ 10 (gcF u c j)) → lin ls [(0, .ref m), (1, .long v1), (3, .int v3)] → V Γ l mX9_findWorth rX9_findWorth (Zm Γ rX9_findWorth (qD none as (hset (hset h (r 20) (aJ Γ 10 (gwF u g 9))) (r 21) (aZ Γ 10 (gcF u c 9))))) 0 0 27 ls [] as h' := by
    intro d
    induction d with
    | zero =>
      intro j v1 v3 ls h' hj hv1 hv3 hh hl
      have e9 : j = 9 := by omega
      subst hh e9
      have hv : v3 < 0 := (pred_lt (k := 0) hv3 (by omega) (by omega)).mpr (by omega)
      refine V.at ?_ hl
      refine q_iload_n dX9_findWorth_27 rfl rfl ?_
      refine q_if_lt 148 dX9_findWorth_28 (by decide) (fun _ => ?_) (fun z => absurd (hv) z)
      exact q_vret dX9_findWorth_148 rfl (Nat.zero_le _) (Nat.zero_le _) (⟨rfl, rfl, rfl⟩)
    | succ d ih =>
      intro j v1 v3 ls h' hj hv1 hv3 hh hl
      have hv : v3 = nI (8 - j) := pred_eq (by rw [hv3]; congr 1; omega)
      have hj9 : j < 9 := by omega
      subst hh hv hv1
      refine V.at ?_ hl
      have hw1 : gwF u g j (9 - j) = wrW u j := by unfold gwF; rw [if_pos (by omega), show 9 - (9 - j) = j by omega]
      have hcl : clB u (8 - j) = decide ((asI u (8 - j)).toInt64 * p10 (j + 1) < clS u (8 - j) (wrW u j)) := by unfold clB; rw [show 9 - (8 - j) = j + 1 by omega, show 8 - (8 - j) = j by omega]
      have tail : ∀ (b : Bool) (v : Int64), b = clB u (8 - j) → v = wrW u (j + 1) → V Γ l mX9_findWorth rX9_findWorth (Zm Γ rX9_findWorth (qD none as (hset (hset h (r 20) (aJ Γ 10 (gwF u g 9))) (r 21) (aZ Γ 10 (gcF u c 9))))) 0 0 135 [(0, .ref m), (1, .long (p10 j)), (3, .int (nI (8 - j)))] [.long v, .int (nI (8 - j)), .ref (r 20)] as (hset (hset h (r 20) (aJ Γ 10 (gwF u g j))) (r 21) (aZ Γ 10 (upd (gcF u c j) (8 - j) (bI b)))) := by
        intro b v hb hv
        subst hb hv
        rw [gc_s hj9]
        refine q_last dX9_findWorth_135 (xg _ _) (in_nI (show 8 - j < 10 by omega) (by omega)) ?_
        refine V.hp ?_ (sw _ _ _)
        refine q_lload_n dX9_findWorth_136 rfl rfl ?_
        refine q_ldc2 (v := 10) dX9_findWorth_137 (by decide +kernel) ?_
        refine q_lmul dX9_findWorth_140 ?_
        refine q_lstore_n dX9_findWorth_141 rfl (by decide) ?_
        refine q_iincM dX9_findWorth_142 rfl (by decide) ?_
        refine q_goto 27 dX9_findWorth_145 (by decide) ?_
        exact ih (j + 1) _ _ _ _ (by omega) rfl (by rw [m1p1]; congr 1; omega) (by rw [nI_clamp (by omega), gw_s hj9]) ⟨rfl, rfl, rfl, trivial⟩
      refine q_iload_n dX9_findWorth_27 rfl rfl ?_
      refine q_if_lt 148 dX9_findWorth_28 (by decide) (fun z => absurd z (nI_pos (by omega))) (fun _ => ?_)
      refine q_aload_n dX9_findWorth_31 rfl rfl ?_
      refine q_iload_n dX9_findWorth_32 rfl rfl ?_
      refine q_callVd dX9_findWorth_33 wX9_findWorth_191 (n_asIs (xM _ _) (xu _ _)) (xM _ _) ⟨_, _, rfl⟩ rfl rfl (Nat.le_of_ble_eq_true rfl) ⟨⟨Nat.le_of_ble_eq_true rfl, Nat.le_of_ble_eq_true rfl⟩, Nat.le_of_ble_eq_true rfl, Nat.le_of_ble_eq_true rfl⟩ ?_
      refine q_i2l dX9_findWorth_36 ?_
      refine q_lload_n dX9_findWorth_37 rfl rfl ?_
      refine q_lmul dX9_findWorth_38 ?_
      refine q_ldc2 (v := 10) dX9_findWorth_39 (by decide +kernel) ?_
      refine q_lmul dX9_findWorth_42 ?_
      rw [pl_m]
      refine q_lstore dX9_findWorth_43 (by decide) ?_
      refine q_aload_n dX9_findWorth_45 rfl rfl ?_
      refine q_get dX9_findWorth_46 fX9_findWorth_39 (xM _ _) rfl ?_
      refine q_iconst (v := 3) dX9_findWorth_49 rfl ?_
      refine q_iald dX9_findWorth_50 (xu _ _) (in_nI (k := 3) (by omega) (by omega)) ?_
      refine q_i2l dX9_findWorth_51 ?_
      refine q_lneg dX9_findWorth_52 ?_
      refine q_aload_n dX9_findWorth_53 rfl rfl ?_
      refine q_get dX9_findWorth_54 fX9_findWorth_39 (xM _ _) rfl ?_
      refine q_iconst (v := 2) dX9_findWorth_57 rfl ?_
      refine q_iald dX9_findWorth_58 (xu _ _) (in_nI (k := 2) (by omega) (by omega)) ?_
      refine q_i2l dX9_findWorth_59 ?_
      refine q_lmul dX9_findWorth_60 ?_
      refine q_lload_n dX9_findWorth_61 rfl rfl ?_
      refine q_lmul dX9_findWorth_62 ?_
      refine q_ldc2 (v := 10) dX9_findWorth_63 (by decide +kernel) ?_
      refine q_aload_n dX9_findWorth_66 rfl rfl ?_
      refine q_get dX9_findWorth_67 fX9_findWorth_39 (xM _ _) rfl ?_
      refine q_iconst (v := 3) dX9_findWorth_70 rfl ?_
      refine q_iald dX9_findWorth_71 (xu _ _) (in_nI (k := 3) (by omega) (by omega)) ?_
      refine q_i2l dX9_findWorth_72 ?_
      refine q_lsub dX9_findWorth_73 ?_
      refine q_aload_n dX9_findWorth_74 rfl rfl ?_
      refine q_get dX9_findWorth_75 fX9_findWorth_39 (xM _ _) rfl ?_
      refine q_iconst (v := 4) dX9_findWorth_78 rfl ?_
      refine q_iald dX9_findWorth_79 (xu _ _) (in_nI (k := 4) (by omega) (by omega)) ?_
      refine q_i2l dX9_findWorth_80 ?_
      refine q_lload_n dX9_findWorth_81 rfl rfl ?_
      refine q_lmul dX9_findWorth_82 ?_
      refine q_aload_n dX9_findWorth_83 rfl rfl ?_
      refine q_get dX9_findWorth_84 fX9_findWorth_45 (xM _ _) rfl ?_
      refine q_iload_n dX9_findWorth_87 rfl rfl ?_
      refine q_iconst (v := 1) dX9_findWorth_88 rfl ?_
      refine q_iadd dX9_findWorth_89 ?_
      rw [nI_s, show 8 - j + 1 = 9 - j by omega]
      refine q_lald dX9_findWorth_90 (xg _ _) (in_nI (show 9 - j < 10 by omega) (by omega)) ?_
      refine q_ladd dX9_findWorth_91 ?_
      refine q_lmul dX9_findWorth_92 ?_
      refine q_ladd dX9_findWorth_93 ?_
      rw [nI_clamp (by omega), hw1, show (-(u (3 : Int32).toNatClampNeg).toInt64 * (u (2 : Int32).toNatClampNeg).toInt64 * p10 j + (10 - (u (3 : Int32).toNatClampNeg).toInt64) * ((u (4 : Int32).toNatClampNeg).toInt64 * p10 j + wrW u j)) = clS u (8 - j) (wrW u j) from clS_m hj9]
      refine q_lstore dX9_findWorth_94 (by decide) ?_
      refine q_aload_n dX9_findWorth_96 rfl rfl ?_
      refine q_get dX9_findWorth_97 fX9_findWorth_49 (xM _ _) rfl ?_
      refine q_iload_n dX9_findWorth_100 rfl rfl ?_
      refine q_lload dX9_findWorth_101 rfl ?_
      refine q_lload dX9_findWorth_103 rfl ?_
      refine q_lcmp dX9_findWorth_105 ?_
      refine q_if_le 113 dX9_findWorth_106 (by decide) (fun cA => ?_) (fun cA => ?_)
      · refine q_iconst (v := 0) dX9_findWorth_113 rfl ?_
        refine q_zast dX9_findWorth_114 (xc _ _) (in_nI (show 8 - j < 10 by omega) (by omega)) ?_
        rw [hset_hset, nI_clamp (by omega)]
        refine q_aload_n dX9_findWorth_115 rfl rfl ?_
        refine q_get dX9_findWorth_116 fX9_findWorth_45 (xM _ _) rfl ?_
        refine q_iload_n dX9_findWorth_119 rfl rfl ?_
        refine q_lload dX9_findWorth_120 rfl ?_
        refine q_lload dX9_findWorth_122 rfl ?_
        refine q_lcmp dX9_findWorth_124 ?_
        refine q_if_le 133 dX9_findWorth_125 (by decide) (fun cB => ?_) (fun cB => ?_)
        · refine q_lload dX9_findWorth_133 rfl ?_
          have hlt : ¬ (asI u (8 - j)).toInt64 * p10 (j + 1) < clS u (8 - j) (wrW u j) := Int64.not_lt.mpr ((lg_cmp_le _ _).mp cB)
          first
          | exact V.at (tail false _ (by rw [hcl, decide_eq_false hlt]) (by rw [wrW_m, if_neg hlt])) ⟨rfl, rfl, rfl, trivial⟩
          | exact absurd cB cA
        · refine q_lload dX9_findWorth_128 rfl ?_
          refine q_goto 135 dX9_findWorth_130 (by decide) ?_
          have hlt : (asI u (8 - j)).toInt64 * p10 (j + 1) < clS u (8 - j) (wrW u j) := Int64.not_le.mp (fun e => cB ((lg_cmp_le _ _).mpr e))
          first
          | exact V.at (tail true _ (by rw [hcl, decide_eq_true hlt]) (by rw [wrW_m, if_pos hlt])) ⟨rfl, rfl, rfl, trivial⟩
          | exact absurd cA cB
      · refine q_iconst (v := 1) dX9_findWorth_109 rfl ?_
        refine q_goto 114 dX9_findWorth_110 (by decide) ?_
        refine q_zast dX9_findWorth_114 (xc _ _) (in_nI (show 8 - j < 10 by omega) (by omega)) ?_
        rw [hset_hset, nI_clamp (by omega)]
        refine q_aload_n dX9_findWorth_115 rfl rfl ?_
        refine q_get dX9_findWorth_116 fX9_findWorth_45 (xM _ _) rfl ?_
        refine q_iload_n dX9_findWorth_119 rfl rfl ?_
        refine q_lload dX9_findWorth_120 rfl ?_
        refine q_lload dX9_findWorth_122 rfl ?_
        refine q_lcmp dX9_findWorth_124 ?_
        refine q_if_le 133 dX9_findWorth_125 (by decide) (fun cB => ?_) (fun cB => ?_)
        · refine q_lload dX9_findWorth_133 rfl ?_
          have hlt : ¬ (asI u (8 - j)).toInt64 * p10 (j + 1) < clS u (8 - j) (wrW u j) := Int64.not_lt.mpr ((lg_cmp_le _ _).mp cB)
          first
          | exact V.at (tail false _ (by rw [hcl, decide_eq_false hlt]) (by rw [wrW_m, if_neg hlt])) ⟨rfl, rfl, rfl, trivial⟩
          | exact absurd cB cA
        · refine q_lload dX9_findWorth_128 rfl ?_
          refine q_goto 135 dX9_findWorth_130 (by decide) ?_
          have hlt : (asI u (8 - j)).toInt64 * p10 (j + 1) < clS u (8 - j) (wrW u j) := Int64.not_le.mp (fun e => cB ((lg_cmp_le _ _).mpr e))
          first
          | exact V.at (tail true _ (by rw [hcl, decide_eq_true hlt]) (by rw [wrW_m, if_pos hlt])) ⟨rfl, rfl, rfl, trivial⟩
          | exact absurd cA cB
  refine Con.of (by decide +kernel) rfl rfl (Nat.le_of_ble_eq_true rfl) ?_
  refine q_lconst (v := 1) dX9_findWorth_0 rfl ?_
  refine q_lstore_n dX9_findWorth_1 rfl (by decide) ?_
  refine q_aload_n dX9_findWorth_2 rfl rfl ?_
  refine q_get dX9_findWorth_3 fX9_findWorth_45 (hM) rfl ?_
  refine q_bipush (v := 9) dX9_findWorth_6 rfl ?_
  refine q_aload_n dX9_findWorth_8 rfl rfl ?_
  refine q_bipush (v := 9) dX9_findWorth_9 rfl ?_
  refine q_callVd dX9_findWorth_11 wX9_findWorth_191 (n_asIs (k := 9) hM hu) (hM) ⟨_, _, rfl⟩ rfl rfl (Nat.le_of_ble_eq_true rfl) ⟨⟨Nat.le_of_ble_eq_true rfl, Nat.le_of_ble_eq_true rfl⟩, Nat.le_of_ble_eq_true rfl, Nat.le_of_ble_eq_true rfl⟩ ?_
  refine q_i2l dX9_findWorth_14 ?_
  refine q_last dX9_findWorth_15 (hg) (in_nI (k := 9) (by omega) (by omega)) ?_
  refine q_aload_n dX9_findWorth_16 rfl rfl ?_
  refine q_get dX9_findWorth_17 fX9_findWorth_49 (hat_ne hM e1) rfl ?_
  refine q_bipush (v := 9) dX9_findWorth_20 rfl ?_
  refine q_iconst (v := 0) dX9_findWorth_22 rfl ?_
  refine q_zast dX9_findWorth_23 (hat_ne hc e5.symm) (in_nI (k := 9) (by omega) (by omega)) ?_
  refine q_bipush (v := 8) dX9_findWorth_24 rfl ?_
  refine q_istore_n dX9_findWorth_26 rfl (by decide) ?_
  exact key 9 0 _ _ _ _ (by omega) rfl rfl (by rw [← gw_0, ← gc_0]; rfl) ⟨rfl, rfl, rfl, trivial⟩
theorem n_there (hM : hat as h m (mo tc r z)) (hn : z 3 = nI n) (hn8 : n ≤ 8) (hf : hat as h (r 13) (aI Γ 240 f)) (hz : zro n f) : Det Γ l mX9_there rX9_there [.ref m] as h (some (.int (pGr f))) h := by
  have key : ∀ (d k : Nat) (v1 v2 : Int32) (ls : List (Nat × Value)), k + d = 10 → v1 = sr (fun w => pWt f w * (10 - nI w)) 0 k → v2 = nI k → lin ls [(0, .ref m), (1, .int v1), (2, .int v2)] → V Γ l mX9_there rX9_there (Zm Γ rX9_there (qD (some (.int (pGr f))) as h)) 0 0 4 ls [] as h := by
    intro d
    induction d with
    | zero =>
      intro k v1 v2 ls hk e1 e2 hl
      subst e1 e2
      refine V.at ?_ hl
      refine q_iload_n dX9_there_4 rfl rfl ?_
      refine q_bipush (v := 10) dX9_there_5 rfl ?_
      refine q_icmp_ge 29 dX9_there_7 (by decide) (fun _ => ?_) (fun z => absurd (ge_c 10 rfl (by omega) (by omega)) z)
      refine q_iload_n dX9_there_29 rfl rfl ?_
      exact q_iret dX9_there_30 rfl (Nat.zero_le _) (Nat.zero_le _) (⟨by rw [show k = 10 by omega]; rfl, rfl, rfl⟩)
    | succ d ih =>
      intro k v1 v2 ls hk e1 e2 hl
      subst e1 e2
      refine V.at ?_ hl
      refine q_iload_n dX9_there_4 rfl rfl ?_
      refine q_bipush (v := 10) dX9_there_5 rfl ?_
      refine q_icmp_ge 29 dX9_there_7 (by decide) (fun z => absurd z (lt_c 10 rfl (by omega) (by omega))) (fun _ => ?_)
      refine q_iload_n dX9_there_10 rfl rfl ?_
      refine q_aload_n dX9_there_11 rfl rfl ?_
      refine q_iload_n dX9_there_12 rfl rfl ?_
      refine q_callVd dX9_there_13 wX9_there_131 (n_ofAll (show k < 10 by omega) hM hn hn8 hf hz) (hM) ⟨_, _, rfl⟩ rfl rfl (Nat.le_of_ble_eq_true rfl) ⟨⟨Nat.le_of_ble_eq_true rfl, Nat.le_of_ble_eq_true rfl⟩, Nat.le_of_ble_eq_true rfl, Nat.le_of_ble_eq_true rfl⟩ ?_
      refine q_bipush (v := 10) dX9_there_16 rfl ?_
      refine q_iload_n dX9_there_18 rfl rfl ?_
      refine q_isub dX9_there_19 ?_
      refine q_imul dX9_there_20 ?_
      refine q_iadd dX9_there_21 ?_
      refine q_istore_n dX9_there_22 rfl (by decide) ?_
      refine q_iinc1 dX9_there_23 rfl (by decide) ?_
      refine q_goto 4 dX9_there_26 (by decide) ?_
      exact ih (k + 1) _ _ _ (by omega) (by simp only [sr, Nat.zero_add]) (nI_s k) ⟨rfl, rfl, rfl, trivial⟩
  refine Con.of (by decide +kernel) rfl rfl (Nat.le_of_ble_eq_true rfl) ?_
  refine q_iconst (v := 0) dX9_there_0 rfl ?_
  refine q_istore_n dX9_there_1 rfl (by decide) ?_
  refine q_iconst (v := 0) dX9_there_2 rfl ?_
  refine q_istore_n dX9_there_3 rfl (by decide) ?_
  exact key 10 0 _ _ _ (by omega) rfl rfl ⟨rfl, rfl, rfl, trivial⟩
theorem n_trace (hM : hat as h m (mo tc r z)) : Det Γ l mX9_trace rX9_trace [.ref m] as h (some (.long tc)) h := by
  refine Con.of (by decide +kernel) rfl rfl (Nat.le_of_ble_eq_true rfl) ?_
  refine q_aload_n dX9_trace_0 rfl rfl ?_
  refine q_get dX9_trace_1 fX9_trace_230 (hM) rfl ?_
  exact q_lret dX9_trace_4 rfl (Nat.zero_le _) (Nat.zero_le _) (⟨rfl, rfl, rfl⟩)
theorem n_mean_no {q : Int32} (hb : isUL q = false ∨ pAll f = 0) (hM : hat as h m (mo tc r z)) (hn : z 3 = nI n) (hn8 : n ≤ 8) (hf : hat as h (r 13) (aI Γ 240 f)) (hz : zro n f) : Det Γ l mX9_mean rX9_mean [.ref m, .int q] as h (some (.long (-1000000000000000000))) h := by
  refine Con.of (by decide +kernel) rfl rfl (Nat.le_of_ble_eq_true rfl) ?_
  refine q_iload_n dX9_mean_0 rfl rfl ?_
  refine q_i2l dX9_mean_1 ?_
  refine q_lconst (v := 0) dX9_mean_2 rfl ?_
  refine q_lconst (v := 1) dX9_mean_3 rfl ?_
  refine q_callSd dX9_mean_4 wX9_mean_60 (n_in) rfl rfl (Nat.le_of_ble_eq_true rfl) ⟨⟨Nat.le_of_ble_eq_true rfl, Nat.le_of_ble_eq_true rfl⟩, Nat.le_of_ble_eq_true rfl, Nat.le_of_ble_eq_true rfl⟩ ?_
  rw [inB_UL]
  refine q_if_eq 17 dX9_mean_7 (by decide) (fun cA => ?_) (fun cA => ?_)
  · refine q_ldc2 (v := (-1000000000000000000)) dX9_mean_17 (by decide +kernel) ?_
    refine q_goto 37 dX9_mean_20 (by decide) ?_
    exact q_lret dX9_mean_37 rfl (Nat.zero_le _) (Nat.zero_le _) (⟨rfl, rfl, rfl⟩)
  · refine q_aload_n dX9_mean_10 rfl rfl ?_
    refine q_callVd dX9_mean_11 wX9_mean_164 (n_allCoins hM hn hn8 hf hz) (hM) ⟨_, _, rfl⟩ rfl rfl (Nat.le_of_ble_eq_true rfl) ⟨⟨Nat.le_of_ble_eq_true rfl, Nat.le_of_ble_eq_true rfl⟩, Nat.le_of_ble_eq_true rfl, Nat.le_of_ble_eq_true rfl⟩ ?_
    refine q_if_ne 23 dX9_mean_14 (by decide) (fun cB => ?_) (fun cB => ?_)
    · exact absurd (hb.resolve_left (fun e => by rw [e] at cA; exact cA rfl)) cB
    · refine q_ldc2 (v := (-1000000000000000000)) dX9_mean_17 (by decide +kernel) ?_
      refine q_goto 37 dX9_mean_20 (by decide) ?_
      exact q_lret dX9_mean_37 rfl (Nat.zero_le _) (Nat.zero_le _) (⟨rfl, rfl, rfl⟩)
theorem n_mean {q : Int32} {a b : Nat} (hq : isUL q = true) (ha : pGr f = nI a) (hb : pAll f = nI b) (ha2 : a < 2 ^ 31) (hb0 : 0 < b) (hb2 : b < 2 ^ 31) (hM : hat as h m (mo tc r z)) (hn : z 3 = nI n) (hn8 : n ≤ 8) (hf : hat as h (r 13) (aI Γ 240 f)) (hz : zro n f) : Det Γ l mX9_mean rX9_mean [.ref m, .int q] as h (some (.long ((if q = 0 then lN a else lN b) / lN (Nat.gcd a b)))) h := by
  refine Con.of (by decide +kernel) rfl rfl (Nat.le_of_ble_eq_true rfl) ?_
  refine q_iload_n dX9_mean_0 rfl rfl ?_
  refine q_i2l dX9_mean_1 ?_
  refine q_lconst (v := 0) dX9_mean_2 rfl ?_
  refine q_lconst (v := 1) dX9_mean_3 rfl ?_
  refine q_callSd dX9_mean_4 wX9_mean_60 (n_in) rfl rfl (Nat.le_of_ble_eq_true rfl) ⟨⟨Nat.le_of_ble_eq_true rfl, Nat.le_of_ble_eq_true rfl⟩, Nat.le_of_ble_eq_true rfl, Nat.le_of_ble_eq_true rfl⟩ ?_
  refine q_if_eq 17 dX9_mean_7 (by decide) (fun z => absurd z (by rw [inB_UL, hq]; decide)) (fun _ => ?_)
  refine q_aload_n dX9_mean_10 rfl rfl ?_
  refine q_callVd dX9_mean_11 wX9_mean_164 (n_allCoins hM hn hn8 hf hz) (hM) ⟨_, _, rfl⟩ rfl rfl (Nat.le_of_ble_eq_true rfl) ⟨⟨Nat.le_of_ble_eq_true rfl, Nat.le_of_ble_eq_true rfl⟩, Nat.le_of_ble_eq_true rfl, Nat.le_of_ble_eq_true rfl⟩ ?_
  refine q_if_ne 23 dX9_mean_14 (by decide) (fun _ => ?_) (fun z => absurd z (by rw [hb]; exact nI_ne0 hb0 hb2))
  refine q_aload_n dX9_mean_23 rfl rfl ?_
  refine q_callVd dX9_mean_24 wX9_mean_205 (n_there hM hn hn8 hf hz) (hM) ⟨_, _, rfl⟩ rfl rfl (Nat.le_of_ble_eq_true rfl) ⟨⟨Nat.le_of_ble_eq_true rfl, Nat.le_of_ble_eq_true rfl⟩, Nat.le_of_ble_eq_true rfl, Nat.le_of_ble_eq_true rfl⟩ ?_
  refine q_i2l dX9_mean_27 ?_
  refine q_aload_n dX9_mean_28 rfl rfl ?_
  refine q_callVd dX9_mean_29 wX9_mean_164 (n_allCoins hM hn hn8 hf hz) (hM) ⟨_, _, rfl⟩ rfl rfl (Nat.le_of_ble_eq_true rfl) ⟨⟨Nat.le_of_ble_eq_true rfl, Nat.le_of_ble_eq_true rfl⟩, Nat.le_of_ble_eq_true rfl, Nat.le_of_ble_eq_true rfl⟩ ?_
  refine q_i2l dX9_mean_32 ?_
  refine q_iload_n dX9_mean_33 rfl rfl ?_
  rw [ha, hb, nI_l ha2, nI_l hb2]
  refine q_callSd dX9_mean_34 wX9_mean_178 (n_inLeast (a := a) (b := b) (by by_cases e : 0 < lN a; rw [if_pos e]; rw [if_neg e]; have : a = 0 := Nat.eq_zero_of_not_pos (fun w => e ((pk_lLT (a := 0) (by omega) (by omega)).mpr w)); rw [this]; rfl) (by omega) (by omega) hb0) rfl rfl (Nat.le_of_ble_eq_true rfl) ⟨⟨Nat.le_of_ble_eq_true rfl, Nat.le_of_ble_eq_true rfl⟩, Nat.le_of_ble_eq_true rfl, Nat.le_of_ble_eq_true rfl⟩ ?_
  exact q_lret dX9_mean_37 rfl (Nat.zero_le _) (Nat.zero_le _) (⟨rfl, rfl, rfl⟩)
end

