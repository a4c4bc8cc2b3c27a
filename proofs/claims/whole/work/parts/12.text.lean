/-! TEXT (X5): bytes and tokens -/
abbrev mX5_hasRoom : mT := (yX5_hasRoom, RX5, cX5_hasRoom, 2, (some .boolean), wsX5_hasRoom)
abbrev rX5_hasRoom : Room := { frames := 0, cells := 0, slots := 0, locals := 0 }
theorem dX5_hasRoom_0 : decode cX5_hasRoom 0 = .ok (.aload_n 0, 1) := by decide +kernel
theorem dX5_hasRoom_1 : decode cX5_hasRoom 1 = .ok (.getfield 15, 3) := by decide +kernel
theorem dX5_hasRoom_4 : decode cX5_hasRoom 4 = .ok (.iload_n 1, 1) := by decide +kernel
theorem dX5_hasRoom_5 : decode cX5_hasRoom 5 = .ok (.iadd, 1) := by decide +kernel
theorem dX5_hasRoom_6 : decode cX5_hasRoom 6 = .ok (.sipush 300, 3) := by decide +kernel
theorem dX5_hasRoom_9 : decode cX5_hasRoom 9 = .ok (.if_icmp .gt 7, 3) := by decide +kernel
theorem dX5_hasRoom_12 : decode cX5_hasRoom 12 = .ok (.iconst 1, 1) := by decide +kernel
theorem dX5_hasRoom_13 : decode cX5_hasRoom 13 = .ok (.goto 4, 3) := by decide +kernel
theorem dX5_hasRoom_16 : decode cX5_hasRoom 16 = .ok (.iconst 0, 1) := by decide +kernel
theorem dX5_hasRoom_17 : decode cX5_hasRoom 17 = .ok (.ireturn, 1) := by decide +kernel
theorem iX5_hasRoom_5 : ∀ w ∈ wsX50, w ∈ wsX5_hasRoom := fun w h => List.mem_cons_of_mem _ (List.mem_append_right _ h)
theorem fX5_hasRoom_15 : FL mX5_hasRoom 15 5 1 := ⟨_, _, _, rfl, by decide, iX5_hasRoom_5, by decide +kernel⟩
abbrev mX5_append : mT := (yX5_append, RX5, cX5_append, 2, none, wsX5_append)
abbrev rX5_append : Room := { frames := 1, cells := 0, slots := 0, locals := 21 }
theorem dX5_append_0 : decode cX5_append 0 = .ok (.aload_n 0, 1) := by decide +kernel
theorem dX5_append_1 : decode cX5_append 1 = .ok (.iconst 1, 1) := by decide +kernel
theorem dX5_append_2 : decode cX5_append 2 = .ok (.invokevirtual 19, 3) := by decide +kernel
theorem dX5_append_5 : decode cX5_append 5 = .ok (.ifCond .eq 23, 3) := by decide +kernel
theorem dX5_append_8 : decode cX5_append 8 = .ok (.aload_n 0, 1) := by decide +kernel
theorem dX5_append_9 : decode cX5_append 9 = .ok (.getfield 11, 3) := by decide +kernel
theorem dX5_append_12 : decode cX5_append 12 = .ok (.aload_n 0, 1) := by decide +kernel
theorem dX5_append_13 : decode cX5_append 13 = .ok (.getfield 15, 3) := by decide +kernel
theorem dX5_append_16 : decode cX5_append 16 = .ok (.iload_n 1, 1) := by decide +kernel
theorem dX5_append_17 : decode cX5_append 17 = .ok (.iastore, 1) := by decide +kernel
theorem dX5_append_18 : decode cX5_append 18 = .ok (.aload_n 0, 1) := by decide +kernel
theorem dX5_append_19 : decode cX5_append 19 = .ok (.dup, 1) := by decide +kernel
theorem dX5_append_20 : decode cX5_append 20 = .ok (.getfield 15, 3) := by decide +kernel
theorem dX5_append_23 : decode cX5_append 23 = .ok (.iconst 1, 1) := by decide +kernel
theorem dX5_append_24 : decode cX5_append 24 = .ok (.iadd, 1) := by decide +kernel
theorem dX5_append_25 : decode cX5_append 25 = .ok (.putfield 15, 3) := by decide +kernel
theorem dX5_append_28 : decode cX5_append 28 = .ok (.return_, 1) := by decide +kernel
theorem iX5_append_5 : ∀ w ∈ wsX50, w ∈ wsX5_append := fun w h => List.mem_cons_of_mem _ (List.mem_append_right _ h)
theorem fX5_append_11 : FL mX5_append 11 5 0 := ⟨_, _, _, rfl, by decide, iX5_append_5, by decide +kernel⟩
theorem fX5_append_15 : FL mX5_append 15 5 1 := ⟨_, _, _, rfl, by decide, iX5_append_5, by decide +kernel⟩
theorem pX5_append_15 : FP mX5_append 15 5 1 .int false := ⟨_, _, _, tyX5, rfl, by decide, iX5_append_5, by decide +kernel, tyX5_ok, nmX5, rfl, rfl, fun z => absurd z (by decide)⟩
set_option maxRecDepth 20000 in
theorem ggX5_append_X5_hasRoom : GoodIn wsX5_append wsX5_hasRoom := goodIn_r _ [7, 2, 8, 9, 10, 11, 12, 13] (by decide +kernel) (by decide +kernel)
set_option maxRecDepth 20000 in
theorem gX5_append_X5_hasRoom : GoodIn wsX5_append (wsV RX5 19 RX5 yX5_hasRoom wsX5_hasRoom) := goodIn_app (goodIn_of _ (by decide +kernel)) ggX5_append_X5_hasRoom
theorem wX5_append_19 : CWV mX5_append 19 mX5_hasRoom 1 := ⟨gX5_append_X5_hasRoom, ⟨_, rfl⟩, rfl, by decide +kernel, by decide +kernel, by decide +kernel⟩
abbrev mX5_isDigit : mT := (yX5_isDigit, RX5, cX5_isDigit, 1, (some .boolean), wsX5_isDigit)
abbrev rX5_isDigit : Room := { frames := 0, cells := 0, slots := 0, locals := 0 }
theorem dX5_isDigit_0 : decode cX5_isDigit 0 = .ok (.iload_n 0, 1) := by decide +kernel
theorem dX5_isDigit_1 : decode cX5_isDigit 1 = .ok (.bipush 48, 2) := by decide +kernel
theorem dX5_isDigit_3 : decode cX5_isDigit 3 = .ok (.if_icmp .lt 13, 3) := by decide +kernel
theorem dX5_isDigit_6 : decode cX5_isDigit 6 = .ok (.iload_n 0, 1) := by decide +kernel
theorem dX5_isDigit_7 : decode cX5_isDigit 7 = .ok (.bipush 57, 2) := by decide +kernel
theorem dX5_isDigit_9 : decode cX5_isDigit 9 = .ok (.if_icmp .gt 7, 3) := by decide +kernel
theorem dX5_isDigit_12 : decode cX5_isDigit 12 = .ok (.iconst 1, 1) := by decide +kernel
theorem dX5_isDigit_13 : decode cX5_isDigit 13 = .ok (.goto 4, 3) := by decide +kernel
theorem dX5_isDigit_16 : decode cX5_isDigit 16 = .ok (.iconst 0, 1) := by decide +kernel
theorem dX5_isDigit_17 : decode cX5_isDigit 17 = .ok (.ireturn, 1) := by decide +kernel
abbrev mX5_isLetter : mT := (yX5_isLetter, RX5, cX5_isLetter, 1, (some .boolean), wsX5_isLetter)
abbrev rX5_isLetter : Room := { frames := 0, cells := 0, slots := 0, locals := 0 }
theorem dX5_isLetter_0 : decode cX5_isLetter 0 = .ok (.iload_n 0, 1) := by decide +kernel
theorem dX5_isLetter_1 : decode cX5_isLetter 1 = .ok (.bipush 97, 2) := by decide +kernel
theorem dX5_isLetter_3 : decode cX5_isLetter 3 = .ok (.if_icmp .lt 13, 3) := by decide +kernel
theorem dX5_isLetter_6 : decode cX5_isLetter 6 = .ok (.iload_n 0, 1) := by decide +kernel
theorem dX5_isLetter_7 : decode cX5_isLetter 7 = .ok (.bipush 122, 2) := by decide +kernel
theorem dX5_isLetter_9 : decode cX5_isLetter 9 = .ok (.if_icmp .gt 7, 3) := by decide +kernel
theorem dX5_isLetter_12 : decode cX5_isLetter 12 = .ok (.iconst 1, 1) := by decide +kernel
theorem dX5_isLetter_13 : decode cX5_isLetter 13 = .ok (.goto 4, 3) := by decide +kernel
theorem dX5_isLetter_16 : decode cX5_isLetter 16 = .ok (.iconst 0, 1) := by decide +kernel
theorem dX5_isLetter_17 : decode cX5_isLetter 17 = .ok (.ireturn, 1) := by decide +kernel
abbrev mX5_numberToken : mT := (yX5_numberToken, RX5, cX5_numberToken, 2, (some .int), wsX5_numberToken)
abbrev rX5_numberToken : Room := { frames := 1, cells := 0, slots := 0, locals := 40 }
theorem dX5_numberToken_0 : decode cX5_numberToken 0 = .ok (.aload_n 0, 1) := by decide +kernel
theorem dX5_numberToken_1 : decode cX5_numberToken 1 = .ok (.iconst 0, 1) := by decide +kernel
theorem dX5_numberToken_2 : decode cX5_numberToken 2 = .ok (.putfield 50, 3) := by decide +kernel
theorem dX5_numberToken_5 : decode cX5_numberToken 5 = .ok (.aload_n 0, 1) := by decide +kernel
theorem dX5_numberToken_6 : decode cX5_numberToken 6 = .ok (.getfield 23, 3) := by decide +kernel
theorem dX5_numberToken_9 : decode cX5_numberToken 9 = .ok (.aload_n 0, 1) := by decide +kernel
theorem dX5_numberToken_10 : decode cX5_numberToken 10 = .ok (.getfield 15, 3) := by decide +kernel
theorem dX5_numberToken_13 : decode cX5_numberToken 13 = .ok (.if_icmp .ge 60, 3) := by decide +kernel
theorem dX5_numberToken_16 : decode cX5_numberToken 16 = .ok (.aload_n 0, 1) := by decide +kernel
theorem dX5_numberToken_17 : decode cX5_numberToken 17 = .ok (.getfield 11, 3) := by decide +kernel
theorem dX5_numberToken_20 : decode cX5_numberToken 20 = .ok (.aload_n 0, 1) := by decide +kernel
theorem dX5_numberToken_21 : decode cX5_numberToken 21 = .ok (.getfield 23, 3) := by decide +kernel
theorem dX5_numberToken_24 : decode cX5_numberToken 24 = .ok (.iaload, 1) := by decide +kernel
theorem dX5_numberToken_25 : decode cX5_numberToken 25 = .ok (.invokestatic 59, 3) := by decide +kernel
theorem dX5_numberToken_28 : decode cX5_numberToken 28 = .ok (.ifCond .eq 45, 3) := by decide +kernel
theorem dX5_numberToken_31 : decode cX5_numberToken 31 = .ok (.aload_n 0, 1) := by decide +kernel
theorem dX5_numberToken_32 : decode cX5_numberToken 32 = .ok (.bipush 100, 2) := by decide +kernel
theorem dX5_numberToken_34 : decode cX5_numberToken 34 = .ok (.aload_n 0, 1) := by decide +kernel
theorem dX5_numberToken_35 : decode cX5_numberToken 35 = .ok (.getfield 50, 3) := by decide +kernel
theorem dX5_numberToken_38 : decode cX5_numberToken 38 = .ok (.bipush 10, 2) := by decide +kernel
theorem dX5_numberToken_40 : decode cX5_numberToken 40 = .ok (.imul, 1) := by decide +kernel
theorem dX5_numberToken_41 : decode cX5_numberToken 41 = .ok (.aload_n 0, 1) := by decide +kernel
theorem dX5_numberToken_42 : decode cX5_numberToken 42 = .ok (.getfield 11, 3) := by decide +kernel
theorem dX5_numberToken_45 : decode cX5_numberToken 45 = .ok (.aload_n 0, 1) := by decide +kernel
theorem dX5_numberToken_46 : decode cX5_numberToken 46 = .ok (.getfield 23, 3) := by decide +kernel
theorem dX5_numberToken_49 : decode cX5_numberToken 49 = .ok (.iaload, 1) := by decide +kernel
theorem dX5_numberToken_50 : decode cX5_numberToken 50 = .ok (.iadd, 1) := by decide +kernel
theorem dX5_numberToken_51 : decode cX5_numberToken 51 = .ok (.bipush 48, 2) := by decide +kernel
theorem dX5_numberToken_53 : decode cX5_numberToken 53 = .ok (.isub, 1) := by decide +kernel
theorem dX5_numberToken_54 : decode cX5_numberToken 54 = .ok (.invokestatic 72, 3) := by decide +kernel
theorem dX5_numberToken_57 : decode cX5_numberToken 57 = .ok (.putfield 50, 3) := by decide +kernel
theorem dX5_numberToken_60 : decode cX5_numberToken 60 = .ok (.aload_n 0, 1) := by decide +kernel
theorem dX5_numberToken_61 : decode cX5_numberToken 61 = .ok (.dup, 1) := by decide +kernel
theorem dX5_numberToken_62 : decode cX5_numberToken 62 = .ok (.getfield 23, 3) := by decide +kernel
theorem dX5_numberToken_65 : decode cX5_numberToken 65 = .ok (.iconst 1, 1) := by decide +kernel
theorem dX5_numberToken_66 : decode cX5_numberToken 66 = .ok (.iadd, 1) := by decide +kernel
theorem dX5_numberToken_67 : decode cX5_numberToken 67 = .ok (.putfield 23, 3) := by decide +kernel
theorem dX5_numberToken_70 : decode cX5_numberToken 70 = .ok (.goto (-65), 3) := by decide +kernel
theorem dX5_numberToken_73 : decode cX5_numberToken 73 = .ok (.aload_n 0, 1) := by decide +kernel
theorem dX5_numberToken_74 : decode cX5_numberToken 74 = .ok (.getfield 11, 3) := by decide +kernel
theorem dX5_numberToken_77 : decode cX5_numberToken 77 = .ok (.aload_n 0, 1) := by decide +kernel
theorem dX5_numberToken_78 : decode cX5_numberToken 78 = .ok (.getfield 41, 3) := by decide +kernel
theorem dX5_numberToken_81 : decode cX5_numberToken 81 = .ok (.iaload, 1) := by decide +kernel
theorem dX5_numberToken_82 : decode cX5_numberToken 82 = .ok (.bipush 48, 2) := by decide +kernel
theorem dX5_numberToken_84 : decode cX5_numberToken 84 = .ok (.if_icmp .ne 20, 3) := by decide +kernel
theorem dX5_numberToken_87 : decode cX5_numberToken 87 = .ok (.aload_n 0, 1) := by decide +kernel
theorem dX5_numberToken_88 : decode cX5_numberToken 88 = .ok (.getfield 23, 3) := by decide +kernel
theorem dX5_numberToken_91 : decode cX5_numberToken 91 = .ok (.aload_n 0, 1) := by decide +kernel
theorem dX5_numberToken_92 : decode cX5_numberToken 92 = .ok (.getfield 41, 3) := by decide +kernel
theorem dX5_numberToken_95 : decode cX5_numberToken 95 = .ok (.isub, 1) := by decide +kernel
theorem dX5_numberToken_96 : decode cX5_numberToken 96 = .ok (.iconst 1, 1) := by decide +kernel
theorem dX5_numberToken_97 : decode cX5_numberToken 97 = .ok (.if_icmp .le 7, 3) := by decide +kernel
theorem dX5_numberToken_100 : decode cX5_numberToken 100 = .ok (.iconst 1, 1) := by decide +kernel
theorem dX5_numberToken_101 : decode cX5_numberToken 101 = .ok (.goto 4, 3) := by decide +kernel
theorem dX5_numberToken_104 : decode cX5_numberToken 104 = .ok (.iconst 0, 1) := by decide +kernel
theorem dX5_numberToken_105 : decode cX5_numberToken 105 = .ok (.istore_n 1, 1) := by decide +kernel
theorem dX5_numberToken_106 : decode cX5_numberToken 106 = .ok (.iload_n 1, 1) := by decide +kernel
theorem dX5_numberToken_107 : decode cX5_numberToken 107 = .ok (.ifCond .ne 12, 3) := by decide +kernel
theorem dX5_numberToken_110 : decode cX5_numberToken 110 = .ok (.aload_n 0, 1) := by decide +kernel
theorem dX5_numberToken_111 : decode cX5_numberToken 111 = .ok (.getfield 50, 3) := by decide +kernel
theorem dX5_numberToken_114 : decode cX5_numberToken 114 = .ok (.bipush 99, 2) := by decide +kernel
theorem dX5_numberToken_116 : decode cX5_numberToken 116 = .ok (.if_icmp .le 7, 3) := by decide +kernel
theorem dX5_numberToken_119 : decode cX5_numberToken 119 = .ok (.iconst 1, 1) := by decide +kernel
theorem dX5_numberToken_120 : decode cX5_numberToken 120 = .ok (.goto 4, 3) := by decide +kernel
theorem dX5_numberToken_123 : decode cX5_numberToken 123 = .ok (.iconst 2, 1) := by decide +kernel
theorem dX5_numberToken_124 : decode cX5_numberToken 124 = .ok (.ireturn, 1) := by decide +kernel
theorem iX5_numberToken_5 : ∀ w ∈ wsX50, w ∈ wsX5_numberToken := fun w h => List.mem_cons_of_mem _ (List.mem_append_right _ h)
theorem fX5_numberToken_11 : FL mX5_numberToken 11 5 0 := ⟨_, _, _, rfl, by decide, iX5_numberToken_5, by decide +kernel⟩
theorem fX5_numberToken_15 : FL mX5_numberToken 15 5 1 := ⟨_, _, _, rfl, by decide, iX5_numberToken_5, by decide +kernel⟩
theorem fX5_numberToken_23 : FL mX5_numberToken 23 5 2 := ⟨_, _, _, rfl, by decide, iX5_numberToken_5, by decide +kernel⟩
theorem pX5_numberToken_23 : FP mX5_numberToken 23 5 2 .int false := ⟨_, _, _, tyX5, rfl, by decide, iX5_numberToken_5, by decide +kernel, tyX5_ok, nmX5, rfl, rfl, fun z => absurd z (by decide)⟩
theorem fX5_numberToken_41 : FL mX5_numberToken 41 5 3 := ⟨_, _, _, rfl, by decide, iX5_numberToken_5, by decide +kernel⟩
theorem fX5_numberToken_50 : FL mX5_numberToken 50 5 5 := ⟨_, _, _, rfl, by decide, iX5_numberToken_5, by decide +kernel⟩
theorem pX5_numberToken_50 : FP mX5_numberToken 50 5 5 .int false := ⟨_, _, _, tyX5, rfl, by decide, iX5_numberToken_5, by decide +kernel, tyX5_ok, nmX5, rfl, rfl, fun z => absurd z (by decide)⟩
set_option maxRecDepth 20000 in
theorem ggX5_numberToken_X5_isDigit : GoodIn wsX5_numberToken wsX5_isDigit := goodIn_r _ [13] (by decide +kernel) (by decide +kernel)
set_option maxRecDepth 20000 in
theorem gX5_numberToken_X5_isDigit : GoodIn wsX5_numberToken (va_wsS RX5 59 yX5_isDigit wsX5_isDigit) := goodIn_app (goodIn_of _ (by decide +kernel)) ggX5_numberToken_X5_isDigit
theorem wX5_numberToken_59 : CWS mX5_numberToken 59 mX5_isDigit 1 := ⟨gX5_numberToken_X5_isDigit, ⟨_, rfl⟩, by decide +kernel, by decide +kernel, by decide +kernel⟩
abbrev mX5_wordIs : mT := (yX5_wordIs, RX5, cX5_wordIs, 3, (some .boolean), wsX5_wordIs)
abbrev rX5_wordIs : Room := { frames := 6, cells := 0, slots := 0, locals := 146 }
theorem dX5_wordIs_0 : decode cX5_wordIs 0 = .ok (.aload_n 0, 1) := by decide +kernel
theorem dX5_wordIs_1 : decode cX5_wordIs 1 = .ok (.getfield 23, 3) := by decide +kernel
theorem dX5_wordIs_4 : decode cX5_wordIs 4 = .ok (.aload_n 0, 1) := by decide +kernel
theorem dX5_wordIs_5 : decode cX5_wordIs 5 = .ok (.getfield 41, 3) := by decide +kernel
theorem dX5_wordIs_8 : decode cX5_wordIs 8 = .ok (.isub, 1) := by decide +kernel
theorem dX5_wordIs_9 : decode cX5_wordIs 9 = .ok (.aload_n 1, 1) := by decide +kernel
theorem dX5_wordIs_10 : decode cX5_wordIs 10 = .ok (.invokevirtual 92, 3) := by decide +kernel
theorem dX5_wordIs_13 : decode cX5_wordIs 13 = .ok (.if_icmp .eq 5, 3) := by decide +kernel
theorem dX5_wordIs_16 : decode cX5_wordIs 16 = .ok (.iconst 0, 1) := by decide +kernel
theorem dX5_wordIs_17 : decode cX5_wordIs 17 = .ok (.ireturn, 1) := by decide +kernel
theorem dX5_wordIs_18 : decode cX5_wordIs 18 = .ok (.iconst 0, 1) := by decide +kernel
theorem dX5_wordIs_19 : decode cX5_wordIs 19 = .ok (.istore_n 2, 1) := by decide +kernel
theorem dX5_wordIs_20 : decode cX5_wordIs 20 = .ok (.iload_n 2, 1) := by decide +kernel
theorem dX5_wordIs_21 : decode cX5_wordIs 21 = .ok (.aload_n 1, 1) := by decide +kernel
theorem dX5_wordIs_22 : decode cX5_wordIs 22 = .ok (.invokevirtual 92, 3) := by decide +kernel
theorem dX5_wordIs_25 : decode cX5_wordIs 25 = .ok (.if_icmp .ge 30, 3) := by decide +kernel
theorem dX5_wordIs_28 : decode cX5_wordIs 28 = .ok (.aload_n 0, 1) := by decide +kernel
theorem dX5_wordIs_29 : decode cX5_wordIs 29 = .ok (.getfield 11, 3) := by decide +kernel
theorem dX5_wordIs_32 : decode cX5_wordIs 32 = .ok (.aload_n 0, 1) := by decide +kernel
theorem dX5_wordIs_33 : decode cX5_wordIs 33 = .ok (.getfield 41, 3) := by decide +kernel
theorem dX5_wordIs_36 : decode cX5_wordIs 36 = .ok (.iload_n 2, 1) := by decide +kernel
theorem dX5_wordIs_37 : decode cX5_wordIs 37 = .ok (.iadd, 1) := by decide +kernel
theorem dX5_wordIs_38 : decode cX5_wordIs 38 = .ok (.iaload, 1) := by decide +kernel
theorem dX5_wordIs_39 : decode cX5_wordIs 39 = .ok (.aload_n 1, 1) := by decide +kernel
theorem dX5_wordIs_40 : decode cX5_wordIs 40 = .ok (.iload_n 2, 1) := by decide +kernel
theorem dX5_wordIs_41 : decode cX5_wordIs 41 = .ok (.invokevirtual 96, 3) := by decide +kernel
theorem dX5_wordIs_44 : decode cX5_wordIs 44 = .ok (.if_icmp .eq 5, 3) := by decide +kernel
theorem dX5_wordIs_47 : decode cX5_wordIs 47 = .ok (.iconst 0, 1) := by decide +kernel
theorem dX5_wordIs_48 : decode cX5_wordIs 48 = .ok (.ireturn, 1) := by decide +kernel
theorem dX5_wordIs_49 : decode cX5_wordIs 49 = .ok (.iinc 2 1, 3) := by decide +kernel
theorem dX5_wordIs_52 : decode cX5_wordIs 52 = .ok (.goto (-32), 3) := by decide +kernel
theorem dX5_wordIs_55 : decode cX5_wordIs 55 = .ok (.iconst 1, 1) := by decide +kernel
theorem dX5_wordIs_56 : decode cX5_wordIs 56 = .ok (.ireturn, 1) := by decide +kernel
theorem iX5_wordIs_5 : ∀ w ∈ wsX50, w ∈ wsX5_wordIs := fun w h => List.mem_cons_of_mem _ (List.mem_append_right _ h)
theorem fX5_wordIs_11 : FL mX5_wordIs 11 5 0 := ⟨_, _, _, rfl, by decide, iX5_wordIs_5, by decide +kernel⟩
theorem fX5_wordIs_23 : FL mX5_wordIs 23 5 2 := ⟨_, _, _, rfl, by decide, iX5_wordIs_5, by decide +kernel⟩
theorem fX5_wordIs_41 : FL mX5_wordIs 41 5 3 := ⟨_, _, _, rfl, by decide, iX5_wordIs_5, by decide +kernel⟩
set_option maxRecDepth 20000 in
theorem ggX5_wordIs_J0_length_8abf5 : GoodIn wsX5_wordIs wsJ0_length_8abf5 := goodIn_r _ [8, 9, 10, 11, 12, 7, 13, 14, 15] (by decide +kernel) (by decide +kernel)
set_option maxRecDepth 20000 in
theorem gX5_wordIs_J0_length_8abf5 : GoodIn wsX5_wordIs (wsV RX5 92 RJ0 yJ0_length_8abf5 wsJ0_length_8abf5) := goodIn_app (goodIn_of _ (by decide +kernel)) ggX5_wordIs_J0_length_8abf5
theorem wX5_wordIs_92 : CWV mX5_wordIs 92 mJ0_length_8abf5 0 := ⟨gX5_wordIs_J0_length_8abf5, ⟨_, rfl⟩, rfl, by decide +kernel, by decide +kernel, by decide +kernel⟩
set_option maxRecDepth 20000 in
theorem ggX5_wordIs_J0_charAt_5068e : GoodIn wsX5_wordIs wsJ0_charAt_5068e := goodIn_r _ [19, 9, 20, 21, 22, 7, 23, 14, 15, 24, 25, 26, 27, 28, 29, 30, 31, 32, 33, 34, 35, 36, 37, 38, 39, 40, 41, 42, 43, 44, 45, 46, 47, 48, 49, 50, 51, 52] (by decide +kernel) (by decide +kernel)
set_option maxRecDepth 20000 in
theorem gX5_wordIs_J0_charAt_5068e : GoodIn wsX5_wordIs (wsV RX5 96 RJ0 yJ0_charAt_5068e wsJ0_charAt_5068e) := goodIn_app (goodIn_of _ (by decide +kernel)) ggX5_wordIs_J0_charAt_5068e
theorem wX5_wordIs_96 : CWV mX5_wordIs 96 mJ0_charAt_5068e 1 := ⟨gX5_wordIs_J0_charAt_5068e, ⟨_, rfl⟩, rfl, by decide +kernel, by decide +kernel, by decide +kernel⟩
abbrev mX5_wordToken : mT := (yX5_wordToken, RX5, cX5_wordToken, 1, (some .int), wsX5_wordToken)
abbrev rX5_wordToken : Room := { frames := 7, cells := 0, slots := 0, locals := 168 }
theorem dX5_wordToken_0 : decode cX5_wordToken 0 = .ok (.aload_n 0, 1) := by decide +kernel
theorem dX5_wordToken_1 : decode cX5_wordToken 1 = .ok (.getfield 23, 3) := by decide +kernel
theorem dX5_wordToken_4 : decode cX5_wordToken 4 = .ok (.aload_n 0, 1) := by decide +kernel
theorem dX5_wordToken_5 : decode cX5_wordToken 5 = .ok (.getfield 15, 3) := by decide +kernel
theorem dX5_wordToken_8 : decode cX5_wordToken 8 = .ok (.if_icmp .ge 31, 3) := by decide +kernel
theorem dX5_wordToken_11 : decode cX5_wordToken 11 = .ok (.aload_n 0, 1) := by decide +kernel
theorem dX5_wordToken_12 : decode cX5_wordToken 12 = .ok (.getfield 11, 3) := by decide +kernel
theorem dX5_wordToken_15 : decode cX5_wordToken 15 = .ok (.aload_n 0, 1) := by decide +kernel
theorem dX5_wordToken_16 : decode cX5_wordToken 16 = .ok (.getfield 23, 3) := by decide +kernel
theorem dX5_wordToken_19 : decode cX5_wordToken 19 = .ok (.iaload, 1) := by decide +kernel
theorem dX5_wordToken_20 : decode cX5_wordToken 20 = .ok (.invokestatic 66, 3) := by decide +kernel
theorem dX5_wordToken_23 : decode cX5_wordToken 23 = .ok (.ifCond .eq 16, 3) := by decide +kernel
theorem dX5_wordToken_26 : decode cX5_wordToken 26 = .ok (.aload_n 0, 1) := by decide +kernel
theorem dX5_wordToken_27 : decode cX5_wordToken 27 = .ok (.dup, 1) := by decide +kernel
theorem dX5_wordToken_28 : decode cX5_wordToken 28 = .ok (.getfield 23, 3) := by decide +kernel
theorem dX5_wordToken_31 : decode cX5_wordToken 31 = .ok (.iconst 1, 1) := by decide +kernel
theorem dX5_wordToken_32 : decode cX5_wordToken 32 = .ok (.iadd, 1) := by decide +kernel
theorem dX5_wordToken_33 : decode cX5_wordToken 33 = .ok (.putfield 23, 3) := by decide +kernel
theorem dX5_wordToken_36 : decode cX5_wordToken 36 = .ok (.goto (-36), 3) := by decide +kernel
theorem dX5_wordToken_39 : decode cX5_wordToken 39 = .ok (.aload_n 0, 1) := by decide +kernel
theorem dX5_wordToken_40 : decode cX5_wordToken 40 = .ok (.ldc 78, 2) := by decide +kernel
theorem dX5_wordToken_42 : decode cX5_wordToken 42 = .ok (.invokevirtual 80, 3) := by decide +kernel
theorem dX5_wordToken_45 : decode cX5_wordToken 45 = .ok (.ifCond .eq 5, 3) := by decide +kernel
theorem dX5_wordToken_48 : decode cX5_wordToken 48 = .ok (.iconst 4, 1) := by decide +kernel
theorem dX5_wordToken_49 : decode cX5_wordToken 49 = .ok (.ireturn, 1) := by decide +kernel
theorem dX5_wordToken_50 : decode cX5_wordToken 50 = .ok (.aload_n 0, 1) := by decide +kernel
theorem dX5_wordToken_51 : decode cX5_wordToken 51 = .ok (.ldc 84, 2) := by decide +kernel
theorem dX5_wordToken_53 : decode cX5_wordToken 53 = .ok (.invokevirtual 80, 3) := by decide +kernel
theorem dX5_wordToken_56 : decode cX5_wordToken 56 = .ok (.ifCond .eq 5, 3) := by decide +kernel
theorem dX5_wordToken_59 : decode cX5_wordToken 59 = .ok (.iconst 5, 1) := by decide +kernel
theorem dX5_wordToken_60 : decode cX5_wordToken 60 = .ok (.ireturn, 1) := by decide +kernel
theorem dX5_wordToken_61 : decode cX5_wordToken 61 = .ok (.aload_n 0, 1) := by decide +kernel
theorem dX5_wordToken_62 : decode cX5_wordToken 62 = .ok (.ldc 86, 2) := by decide +kernel
theorem dX5_wordToken_64 : decode cX5_wordToken 64 = .ok (.invokevirtual 80, 3) := by decide +kernel
theorem dX5_wordToken_67 : decode cX5_wordToken 67 = .ok (.ifCond .eq 6, 3) := by decide +kernel
theorem dX5_wordToken_70 : decode cX5_wordToken 70 = .ok (.bipush 6, 2) := by decide +kernel
theorem dX5_wordToken_72 : decode cX5_wordToken 72 = .ok (.ireturn, 1) := by decide +kernel
theorem dX5_wordToken_73 : decode cX5_wordToken 73 = .ok (.aload_n 0, 1) := by decide +kernel
theorem dX5_wordToken_74 : decode cX5_wordToken 74 = .ok (.ldc 88, 2) := by decide +kernel
theorem dX5_wordToken_76 : decode cX5_wordToken 76 = .ok (.invokevirtual 80, 3) := by decide +kernel
theorem dX5_wordToken_79 : decode cX5_wordToken 79 = .ok (.ifCond .eq 6, 3) := by decide +kernel
theorem dX5_wordToken_82 : decode cX5_wordToken 82 = .ok (.bipush 7, 2) := by decide +kernel
theorem dX5_wordToken_84 : decode cX5_wordToken 84 = .ok (.ireturn, 1) := by decide +kernel
theorem dX5_wordToken_85 : decode cX5_wordToken 85 = .ok (.aload_n 0, 1) := by decide +kernel
theorem dX5_wordToken_86 : decode cX5_wordToken 86 = .ok (.ldc 90, 2) := by decide +kernel
theorem dX5_wordToken_88 : decode cX5_wordToken 88 = .ok (.invokevirtual 80, 3) := by decide +kernel
theorem dX5_wordToken_91 : decode cX5_wordToken 91 = .ok (.ifCond .eq 8, 3) := by decide +kernel
theorem dX5_wordToken_94 : decode cX5_wordToken 94 = .ok (.bipush 8, 2) := by decide +kernel
theorem dX5_wordToken_96 : decode cX5_wordToken 96 = .ok (.goto 4, 3) := by decide +kernel
theorem dX5_wordToken_99 : decode cX5_wordToken 99 = .ok (.iconst 1, 1) := by decide +kernel
theorem dX5_wordToken_100 : decode cX5_wordToken 100 = .ok (.ireturn, 1) := by decide +kernel
theorem iX5_wordToken_5 : ∀ w ∈ wsX50, w ∈ wsX5_wordToken := fun w h => List.mem_cons_of_mem _ (List.mem_append_right _ h)
theorem fX5_wordToken_11 : FL mX5_wordToken 11 5 0 := ⟨_, _, _, rfl, by decide, iX5_wordToken_5, by decide +kernel⟩
theorem fX5_wordToken_15 : FL mX5_wordToken 15 5 1 := ⟨_, _, _, rfl, by decide, iX5_wordToken_5, by decide +kernel⟩
theorem fX5_wordToken_23 : FL mX5_wordToken 23 5 2 := ⟨_, _, _, rfl, by decide, iX5_wordToken_5, by decide +kernel⟩
theorem pX5_wordToken_23 : FP mX5_wordToken 23 5 2 .int false := ⟨_, _, _, tyX5, rfl, by decide, iX5_wordToken_5, by decide +kernel, tyX5_ok, nmX5, rfl, rfl, fun z => absurd z (by decide)⟩
set_option maxRecDepth 20000 in
theorem ggX5_wordToken_X5_isLetter : GoodIn wsX5_wordToken wsX5_isLetter := goodIn_r _ [7] (by decide +kernel) (by decide +kernel)
set_option maxRecDepth 20000 in
theorem gX5_wordToken_X5_isLetter : GoodIn wsX5_wordToken (va_wsS RX5 66 yX5_isLetter wsX5_isLetter) := goodIn_app (goodIn_of _ (by decide +kernel)) ggX5_wordToken_X5_isLetter
theorem wX5_wordToken_66 : CWS mX5_wordToken 66 mX5_isLetter 1 := ⟨gX5_wordToken_X5_isLetter, ⟨_, rfl⟩, by decide +kernel, by decide +kernel, by decide +kernel⟩
set_option maxRecDepth 20000 in
theorem ggX5_wordToken_X5_wordIs : GoodIn wsX5_wordToken wsX5_wordIs := goodIn_r _ [11, 1, 12, 3, 13, 14, 15, 16, 17, 18, 19, 20, 21, 22, 23, 24, 25, 26, 27, 28, 29, 30, 31, 32, 33, 34, 35, 36, 37, 38, 39, 40, 41, 42, 43, 44, 45, 46, 47, 48, 49, 50, 51, 52, 53, 54, 55, 56, 57, 58, 59, 60, 61, 62, 63, 64, 65, 66, 67] (by decide +kernel) (by decide +kernel)
set_option maxRecDepth 20000 in
theorem gX5_wordToken_X5_wordIs : GoodIn wsX5_wordToken (wsV RX5 80 RX5 yX5_wordIs wsX5_wordIs) := goodIn_app (goodIn_of _ (by decide +kernel)) ggX5_wordToken_X5_wordIs
theorem wX5_wordToken_80 : CWV mX5_wordToken 80 mX5_wordIs 1 := ⟨gX5_wordToken_X5_wordIs, ⟨_, rfl⟩, rfl, by decide +kernel, by decide +kernel, by decide +kernel⟩
abbrev mX5_advance : mT := (yX5_advance, RX5, cX5_advance, 1, none, wsX5_advance)
abbrev rX5_advance : Room := { frames := 8, cells := 0, slots := 0, locals := 188 }
theorem dX5_advance_0 : decode cX5_advance 0 = .ok (.aload_n 0, 1) := by decide +kernel
theorem dX5_advance_1 : decode cX5_advance 1 = .ok (.getfield 23, 3) := by decide +kernel
theorem dX5_advance_4 : decode cX5_advance 4 = .ok (.aload_n 0, 1) := by decide +kernel
theorem dX5_advance_5 : decode cX5_advance 5 = .ok (.getfield 15, 3) := by decide +kernel
theorem dX5_advance_8 : decode cX5_advance 8 = .ok (.if_icmp .ge 30, 3) := by decide +kernel
theorem dX5_advance_11 : decode cX5_advance 11 = .ok (.aload_n 0, 1) := by decide +kernel
theorem dX5_advance_12 : decode cX5_advance 12 = .ok (.getfield 11, 3) := by decide +kernel
theorem dX5_advance_15 : decode cX5_advance 15 = .ok (.aload_n 0, 1) := by decide +kernel
theorem dX5_advance_16 : decode cX5_advance 16 = .ok (.getfield 23, 3) := by decide +kernel
theorem dX5_advance_19 : decode cX5_advance 19 = .ok (.iaload, 1) := by decide +kernel
theorem dX5_advance_20 : decode cX5_advance 20 = .ok (.bipush 32, 2) := by decide +kernel
theorem dX5_advance_22 : decode cX5_advance 22 = .ok (.if_icmp .ne 16, 3) := by decide +kernel
theorem dX5_advance_25 : decode cX5_advance 25 = .ok (.aload_n 0, 1) := by decide +kernel
theorem dX5_advance_26 : decode cX5_advance 26 = .ok (.dup, 1) := by decide +kernel
theorem dX5_advance_27 : decode cX5_advance 27 = .ok (.getfield 23, 3) := by decide +kernel
theorem dX5_advance_30 : decode cX5_advance 30 = .ok (.iconst 1, 1) := by decide +kernel
theorem dX5_advance_31 : decode cX5_advance 31 = .ok (.iadd, 1) := by decide +kernel
theorem dX5_advance_32 : decode cX5_advance 32 = .ok (.putfield 23, 3) := by decide +kernel
theorem dX5_advance_35 : decode cX5_advance 35 = .ok (.goto (-35), 3) := by decide +kernel
theorem dX5_advance_38 : decode cX5_advance 38 = .ok (.aload_n 0, 1) := by decide +kernel
theorem dX5_advance_39 : decode cX5_advance 39 = .ok (.aload_n 0, 1) := by decide +kernel
theorem dX5_advance_40 : decode cX5_advance 40 = .ok (.getfield 23, 3) := by decide +kernel
theorem dX5_advance_43 : decode cX5_advance 43 = .ok (.putfield 41, 3) := by decide +kernel
theorem dX5_advance_46 : decode cX5_advance 46 = .ok (.aload_n 0, 1) := by decide +kernel
theorem dX5_advance_47 : decode cX5_advance 47 = .ok (.getfield 23, 3) := by decide +kernel
theorem dX5_advance_50 : decode cX5_advance 50 = .ok (.aload_n 0, 1) := by decide +kernel
theorem dX5_advance_51 : decode cX5_advance 51 = .ok (.getfield 15, 3) := by decide +kernel
theorem dX5_advance_54 : decode cX5_advance 54 = .ok (.if_icmp .lt 11, 3) := by decide +kernel
theorem dX5_advance_57 : decode cX5_advance 57 = .ok (.aload_n 0, 1) := by decide +kernel
theorem dX5_advance_58 : decode cX5_advance 58 = .ok (.iconst 0, 1) := by decide +kernel
theorem dX5_advance_59 : decode cX5_advance 59 = .ok (.putfield 34, 3) := by decide +kernel
theorem dX5_advance_62 : decode cX5_advance 62 = .ok (.goto 92, 3) := by decide +kernel
theorem dX5_advance_65 : decode cX5_advance 65 = .ok (.aload_n 0, 1) := by decide +kernel
theorem dX5_advance_66 : decode cX5_advance 66 = .ok (.getfield 11, 3) := by decide +kernel
theorem dX5_advance_69 : decode cX5_advance 69 = .ok (.aload_n 0, 1) := by decide +kernel
theorem dX5_advance_70 : decode cX5_advance 70 = .ok (.getfield 23, 3) := by decide +kernel
theorem dX5_advance_73 : decode cX5_advance 73 = .ok (.iaload, 1) := by decide +kernel
theorem dX5_advance_74 : decode cX5_advance 74 = .ok (.bipush 59, 2) := by decide +kernel
theorem dX5_advance_76 : decode cX5_advance 76 = .ok (.if_icmp .ne 21, 3) := by decide +kernel
theorem dX5_advance_79 : decode cX5_advance 79 = .ok (.aload_n 0, 1) := by decide +kernel
theorem dX5_advance_80 : decode cX5_advance 80 = .ok (.dup, 1) := by decide +kernel
theorem dX5_advance_81 : decode cX5_advance 81 = .ok (.getfield 23, 3) := by decide +kernel
theorem dX5_advance_84 : decode cX5_advance 84 = .ok (.iconst 1, 1) := by decide +kernel
theorem dX5_advance_85 : decode cX5_advance 85 = .ok (.iadd, 1) := by decide +kernel
theorem dX5_advance_86 : decode cX5_advance 86 = .ok (.putfield 23, 3) := by decide +kernel
theorem dX5_advance_89 : decode cX5_advance 89 = .ok (.aload_n 0, 1) := by decide +kernel
theorem dX5_advance_90 : decode cX5_advance 90 = .ok (.iconst 3, 1) := by decide +kernel
theorem dX5_advance_91 : decode cX5_advance 91 = .ok (.putfield 34, 3) := by decide +kernel
theorem dX5_advance_94 : decode cX5_advance 94 = .ok (.goto 60, 3) := by decide +kernel
theorem dX5_advance_97 : decode cX5_advance 97 = .ok (.aload_n 0, 1) := by decide +kernel
theorem dX5_advance_98 : decode cX5_advance 98 = .ok (.getfield 11, 3) := by decide +kernel
theorem dX5_advance_101 : decode cX5_advance 101 = .ok (.aload_n 0, 1) := by decide +kernel
theorem dX5_advance_102 : decode cX5_advance 102 = .ok (.getfield 23, 3) := by decide +kernel
theorem dX5_advance_105 : decode cX5_advance 105 = .ok (.iaload, 1) := by decide +kernel
theorem dX5_advance_106 : decode cX5_advance 106 = .ok (.invokestatic 59, 3) := by decide +kernel
theorem dX5_advance_109 : decode cX5_advance 109 = .ok (.ifCond .eq 14, 3) := by decide +kernel
theorem dX5_advance_112 : decode cX5_advance 112 = .ok (.aload_n 0, 1) := by decide +kernel
theorem dX5_advance_113 : decode cX5_advance 113 = .ok (.aload_n 0, 1) := by decide +kernel
theorem dX5_advance_114 : decode cX5_advance 114 = .ok (.invokevirtual 62, 3) := by decide +kernel
theorem dX5_advance_117 : decode cX5_advance 117 = .ok (.putfield 34, 3) := by decide +kernel
theorem dX5_advance_120 : decode cX5_advance 120 = .ok (.goto 34, 3) := by decide +kernel
theorem dX5_advance_123 : decode cX5_advance 123 = .ok (.aload_n 0, 1) := by decide +kernel
theorem dX5_advance_124 : decode cX5_advance 124 = .ok (.getfield 11, 3) := by decide +kernel
theorem dX5_advance_127 : decode cX5_advance 127 = .ok (.aload_n 0, 1) := by decide +kernel
theorem dX5_advance_128 : decode cX5_advance 128 = .ok (.getfield 23, 3) := by decide +kernel
theorem dX5_advance_131 : decode cX5_advance 131 = .ok (.iaload, 1) := by decide +kernel
theorem dX5_advance_132 : decode cX5_advance 132 = .ok (.invokestatic 66, 3) := by decide +kernel
theorem dX5_advance_135 : decode cX5_advance 135 = .ok (.ifCond .eq 14, 3) := by decide +kernel
theorem dX5_advance_138 : decode cX5_advance 138 = .ok (.aload_n 0, 1) := by decide +kernel
theorem dX5_advance_139 : decode cX5_advance 139 = .ok (.aload_n 0, 1) := by decide +kernel
theorem dX5_advance_140 : decode cX5_advance 140 = .ok (.invokevirtual 69, 3) := by decide +kernel
theorem dX5_advance_143 : decode cX5_advance 143 = .ok (.putfield 34, 3) := by decide +kernel
theorem dX5_advance_146 : decode cX5_advance 146 = .ok (.goto 8, 3) := by decide +kernel
theorem dX5_advance_149 : decode cX5_advance 149 = .ok (.aload_n 0, 1) := by decide +kernel
theorem dX5_advance_150 : decode cX5_advance 150 = .ok (.iconst 1, 1) := by decide +kernel
theorem dX5_advance_151 : decode cX5_advance 151 = .ok (.putfield 34, 3) := by decide +kernel
theorem dX5_advance_154 : decode cX5_advance 154 = .ok (.return_, 1) := by decide +kernel
theorem iX5_advance_5 : ∀ w ∈ wsX50, w ∈ wsX5_advance := fun w h => List.mem_cons_of_mem _ (List.mem_append_right _ h)
theorem fX5_advance_11 : FL mX5_advance 11 5 0 := ⟨_, _, _, rfl, by decide, iX5_advance_5, by decide +kernel⟩
theorem fX5_advance_15 : FL mX5_advance 15 5 1 := ⟨_, _, _, rfl, by decide, iX5_advance_5, by decide +kernel⟩
theorem fX5_advance_23 : FL mX5_advance 23 5 2 := ⟨_, _, _, rfl, by decide, iX5_advance_5, by decide +kernel⟩
theorem pX5_advance_23 : FP mX5_advance 23 5 2 .int false := ⟨_, _, _, tyX5, rfl, by decide, iX5_advance_5, by decide +kernel, tyX5_ok, nmX5, rfl, rfl, fun z => absurd z (by decide)⟩
theorem pX5_advance_34 : FP mX5_advance 34 5 4 .int false := ⟨_, _, _, tyX5, rfl, by decide, iX5_advance_5, by decide +kernel, tyX5_ok, nmX5, rfl, rfl, fun z => absurd z (by decide)⟩
theorem pX5_advance_41 : FP mX5_advance 41 5 3 .int false := ⟨_, _, _, tyX5, rfl, by decide, iX5_advance_5, by decide +kernel, tyX5_ok, nmX5, rfl, rfl, fun z => absurd z (by decide)⟩
set_option maxRecDepth 20000 in
theorem ggX5_advance_X5_isDigit : GoodIn wsX5_advance wsX5_isDigit := goodIn_r _ [9] (by decide +kernel) (by decide +kernel)
set_option maxRecDepth 20000 in
theorem gX5_advance_X5_isDigit : GoodIn wsX5_advance (va_wsS RX5 59 yX5_isDigit wsX5_isDigit) := goodIn_app (goodIn_of _ (by decide +kernel)) ggX5_advance_X5_isDigit
theorem wX5_advance_59 : CWS mX5_advance 59 mX5_isDigit 1 := ⟨gX5_advance_X5_isDigit, ⟨_, rfl⟩, by decide +kernel, by decide +kernel, by decide +kernel⟩
set_option maxRecDepth 20000 in
theorem ggX5_advance_X5_numberToken : GoodIn wsX5_advance wsX5_numberToken := goodIn_r _ [13, 14, 1, 2, 3, 15, 16, 17, 18, 4, 6, 7, 8, 9, 79, 80, 81, 82, 83, 84] (by decide +kernel) (by decide +kernel)
set_option maxRecDepth 20000 in
theorem gX5_advance_X5_numberToken : GoodIn wsX5_advance (wsV RX5 62 RX5 yX5_numberToken wsX5_numberToken) := goodIn_app (goodIn_of _ (by decide +kernel)) ggX5_advance_X5_numberToken
theorem wX5_advance_62 : CWV mX5_advance 62 mX5_numberToken 0 := ⟨gX5_advance_X5_numberToken, ⟨_, rfl⟩, rfl, by decide +kernel, by decide +kernel, by decide +kernel⟩
set_option maxRecDepth 20000 in
theorem ggX5_advance_X5_isLetter : GoodIn wsX5_advance wsX5_isLetter := goodIn_r _ [21] (by decide +kernel) (by decide +kernel)
set_option maxRecDepth 20000 in
theorem gX5_advance_X5_isLetter : GoodIn wsX5_advance (va_wsS RX5 66 yX5_isLetter wsX5_isLetter) := goodIn_app (goodIn_of _ (by decide +kernel)) ggX5_advance_X5_isLetter
theorem wX5_advance_66 : CWS mX5_advance 66 mX5_isLetter 1 := ⟨gX5_advance_X5_isLetter, ⟨_, rfl⟩, by decide +kernel, by decide +kernel, by decide +kernel⟩
set_option maxRecDepth 20000 in
theorem ggX5_advance_X5_wordToken : GoodIn wsX5_advance wsX5_wordToken := goodIn_r _ [25, 1, 2, 3, 19, 20, 8, 21, 26, 27, 28, 29, 4, 30, 31, 32, 33, 34, 35, 36, 37, 38, 39, 40, 41, 42, 43, 44, 45, 46, 47, 48, 49, 50, 51, 52, 53, 54, 55, 56, 57, 58, 59, 60, 61, 62, 63, 64, 65, 66, 67, 68, 69, 70, 71, 72, 73, 74, 75, 76, 77, 78, 79, 80, 81, 82, 83, 84] (by decide +kernel) (by decide +kernel)
set_option maxRecDepth 20000 in
theorem gX5_advance_X5_wordToken : GoodIn wsX5_advance (wsV RX5 69 RX5 yX5_wordToken wsX5_wordToken) := goodIn_app (goodIn_of _ (by decide +kernel)) ggX5_advance_X5_wordToken
theorem wX5_advance_69 : CWV mX5_advance 69 mX5_wordToken 0 := ⟨gX5_advance_X5_wordToken, ⟨_, rfl⟩, rfl, by decide +kernel, by decide +kernel, by decide +kernel⟩
/-- the text's object: bytes, length, at, start, token, number -/
abbrev tq (b len a s k v : Nat) : va_E := ob 5 [.ref b, .int (nI len), .int (nI a), .int (nI s), .int (nI k), .int (nI v)]
def isBl (c : Nat) : Bool := c == 32
def isDg (c : Nat) : Bool := decide (48 ≤ c) && decide (c ≤ 57)
def isLt (c : Nat) : Bool := decide (97 ≤ c) && decide (c ≤ 122)
def skp (p : Nat → Bool) (t : Nat → Nat) (len : Nat) : Nat → Nat → Nat
  | 0, a => a
  | d + 1, a => if a < len ∧ p (t a) = true then skp p t len d (a + 1) else a
def numS (t : Nat → Nat) (len : Nat) : Nat → Nat → Nat → Nat × Nat
  | 0, a, v => (a, v)
  | d + 1, a, v => if a < len ∧ isDg (t a) = true then numS t len d (a + 1) (min 100 (v * 10 + (t a - 48))) else (a, v)
def sCN (i k : Nat) : Nat := (([[116, 97, 108, 101], [108, 111, 111, 107], [115, 111, 109, 101], [108, 105, 103, 104, 116], [104, 101, 97, 118, 121]] : List (List Nat)).getD i []).getD k 0
def weq (t : Nat → Nat) (s i : Nat) : Nat → Nat → Bool
  | 0, _ => true
  | d + 1, k => if t (s + k) = sCN i k then weq t s i d (k + 1) else false
def wIs (t : Nat → Nat) (s e i : Nat) : Bool := decide (e - s = sLn i) && weq t s i (sLn i) 0
def wTok (t : Nat → Nat) (s e : Nat) : Nat := if wIs t s e 0 then 4 else if wIs t s e 1 then 5 else if wIs t s e 2 then 6 else if wIs t s e 3 then 7 else if wIs t s e 4 then 8 else 1
/-- the next token: at, start, token, number -/
def advF (t : Nat → Nat) (len a v : Nat) : Nat × Nat × Nat × Nat :=
  if len ≤ skp isBl t len (len - a) a then (skp isBl t len (len - a) a, skp isBl t len (len - a) a, 0, v)
  else if t (skp isBl t len (len - a) a) = 59 then (skp isBl t len (len - a) a + 1, skp isBl t len (len - a) a, 3, v)
  else if isDg (t (skp isBl t len (len - a) a)) = true then ((numS t len (len - skp isBl t len (len - a) a) (skp isBl t len (len - a) a) 0).1, skp isBl t len (len - a) a, (if (t (skp isBl t len (len - a) a) = 48 ∧ 1 < (numS t len (len - skp isBl t len (len - a) a) (skp isBl t len (len - a) a) 0).1 - skp isBl t len (len - a) a) ∨ 99 < (numS t len (len - skp isBl t len (len - a) a) (skp isBl t len (len - a) a) 0).2 then 1 else 2), (numS t len (len - skp isBl t len (len - a) a) (skp isBl t len (len - a) a) 0).2)
  else if isLt (t (skp isBl t len (len - a) a)) = true then (skp isLt t len (len - skp isBl t len (len - a) a) (skp isBl t len (len - a) a), skp isBl t len (len - a) a, wTok t (skp isBl t len (len - a) a) (skp isLt t len (len - skp isBl t len (len - a) a) (skp isBl t len (len - a) a)), v)
  else (skp isBl t len (len - a) a, skp isBl t len (len - a) a, 1, v)
theorem skp_le {p : Nat → Bool} {t : Nat → Nat} {len : Nat} : ∀ d a, a ≤ len → a ≤ skp p t len d a ∧ skp p t len d a ≤ len := by
  intro d
  induction d with
  | zero => intro a h; exact ⟨Nat.le_refl _, h⟩
  | succ d ih =>
    intro a h
    simp only [skp]
    by_cases hc : a < len ∧ p (t a) = true
    · rw [if_pos hc]
      have := ih (a + 1) hc.1
      omega
    · rw [if_neg hc]
      omega
theorem numS_le {t : Nat → Nat} {len : Nat} : ∀ d a v, a ≤ len → v ≤ 100 → a ≤ (numS t len d a v).1 ∧ (numS t len d a v).1 ≤ len ∧ (numS t len d a v).2 ≤ 100 := by
  intro d
  induction d with
  | zero => intro a v h hv; exact ⟨Nat.le_refl _, h, hv⟩
  | succ d ih =>
    intro a v h hv
    simp only [numS]
    by_cases hc : a < len ∧ isDg (t a) = true
    · rw [if_pos hc]
      have := ih (a + 1) (min 100 (v * 10 + (t a - 48))) hc.1 (by omega)
      omega
    · rw [if_neg hc]
      omega
theorem sCN_ok : ∀ i, i < 5 → ∀ k, k < sLn i → sCh i k = nI (sCN i k) ∧ sCN i k < 256 := by decide +kernel
section
variable {Γ : gT} {l : Launch} {as : List Nat} {h : aH} {q b len a s k v : Nat} {bx : Nat → Int32} {t : Nat → Nat}
theorem c_hasRoom {n : Nat} (hq : hat as h q (tq b len a s k v)) (hl : len ≤ 300) (hn : n ≤ 8) : Det Γ l mX5_hasRoom rX5_hasRoom [.ref q, .int (nI n)] as h (some (.int (bI (decide (len + n ≤ 300))))) h := by
  refine Con.of (by decide +kernel) rfl rfl (Nat.le_of_ble_eq_true rfl) ?_
  refine q_aload_n dX5_hasRoom_0 rfl rfl ?_
  refine q_get dX5_hasRoom_1 fX5_hasRoom_15 (hq) rfl ?_
  refine q_iload_n dX5_hasRoom_4 rfl rfl ?_
  refine q_iadd dX5_hasRoom_5 ?_
  refine q_sipush (v := 300) dX5_hasRoom_6 rfl ?_
  rw [nI_add]
  refine q_icmp_gt 16 dX5_hasRoom_9 (by decide) (fun cA => ?_) (fun cA => ?_)
  · rw [show decide (len + n ≤ 300) = false from decide_eq_false (fun z => absurd cA (nI_nlt (b := len + n) (a := 300) z (by omega)))]
    refine q_iconst (v := 0) dX5_hasRoom_16 rfl ?_
    exact q_zret dX5_hasRoom_17 rfl (rfl) (Nat.zero_le _) (Nat.zero_le _) (⟨rfl, rfl, rfl⟩)
  · rw [show decide (len + n ≤ 300) = true from decide_eq_true (Nat.le_of_not_lt (fun z => cA (nI_lt (a := 300) z (by omega))))]
    refine q_iconst (v := 1) dX5_hasRoom_12 rfl ?_
    refine q_goto 17 dX5_hasRoom_13 (by decide) ?_
    exact q_zret dX5_hasRoom_17 rfl (rfl) (Nat.zero_le _) (Nat.zero_le _) (⟨rfl, rfl, rfl⟩)
theorem c_append {x : Int32} (hq : hat as h q (tq b len a s k v)) (hb : hat as h b (aI Γ 300 bx)) (hl : len < 300) : Det Γ l mX5_append rX5_append [.ref q, .int x] as h none (hset (hset h b (aI Γ 300 (upd bx len x))) q (tq b (len + 1) a s k v)) := by
  have e := hat_oa hq hb
  refine Con.of (by decide +kernel) rfl rfl (Nat.le_of_ble_eq_true rfl) ?_
  refine q_aload_n dX5_append_0 rfl rfl ?_
  refine q_iconst (v := 1) dX5_append_1 rfl ?_
  refine q_callVd dX5_append_2 wX5_append_19 (c_hasRoom (n := 1) hq (by omega) (by omega)) (hq) ⟨_, _, rfl⟩ rfl rfl (Nat.le_of_ble_eq_true rfl) ⟨⟨Nat.le_of_ble_eq_true rfl, Nat.le_of_ble_eq_true rfl⟩, Nat.le_of_ble_eq_true rfl, Nat.le_of_ble_eq_true rfl⟩ ?_
  rw [show decide (len + 1 ≤ 300) = true from decide_eq_true (by omega)]
  refine q_if_eq 28 dX5_append_5 (by decide) (fun z => absurd z ((by decide))) (fun _ => ?_)
  refine q_aload_n dX5_append_8 rfl rfl ?_
  refine q_get dX5_append_9 fX5_append_11 (hq) rfl ?_
  refine q_aload_n dX5_append_12 rfl rfl ?_
  refine q_get dX5_append_13 fX5_append_15 (hq) rfl ?_
  refine q_iload_n dX5_append_16 rfl rfl ?_
  refine q_iast dX5_append_17 (hb) (in_nI (show len < 300 by omega) (by omega)) ?_
  refine q_aload_n dX5_append_18 rfl rfl ?_
  refine q_dup dX5_append_19 rfl ?_
  refine q_get dX5_append_20 fX5_append_15 (hat_ne hq e) rfl ?_
  refine q_iconst (v := 1) dX5_append_23 rfl ?_
  refine q_iadd dX5_append_24 ?_
  refine q_put dX5_append_25 pX5_append_15 (hat_ne hq e) rfl rfl (Nat.le_of_ble_eq_true rfl) ?_
  exact q_vret dX5_append_28 rfl (Nat.zero_le _) (Nat.zero_le _) (⟨rfl, rfl, by rw [nI_clamp (by omega), nI_s]; rfl⟩)
theorem c_isDigit {c : Nat} (hc : c < 256) : Det Γ l mX5_isDigit rX5_isDigit [.int (nI c)] as h (some (.int (bI (isDg c)))) h := by
  refine Con.of (by decide +kernel) rfl rfl (Nat.le_of_ble_eq_true rfl) ?_
  refine q_iload_n dX5_isDigit_0 rfl rfl ?_
  refine q_bipush (v := 48) dX5_isDigit_1 rfl ?_
  refine q_icmp_lt 16 dX5_isDigit_3 (by decide) (fun cA => ?_) (fun cA => ?_)
  · rw [show isDg c = false by
        unfold isDg
        rw [Bool.and_eq_false_iff, decide_eq_false_iff_not, decide_eq_false_iff_not]
        first | exact Or.inr (fun z => absurd cB (nI_nlt (a := 57) z (by omega))) | exact Or.inl (fun z => absurd cA (nI_nlt (b := 48) z (by omega)))]
    refine q_iconst (v := 0) dX5_isDigit_16 rfl ?_
    exact q_zret dX5_isDigit_17 rfl (rfl) (Nat.zero_le _) (Nat.zero_le _) (⟨rfl, rfl, rfl⟩)
  · refine q_iload_n dX5_isDigit_6 rfl rfl ?_
    refine q_bipush (v := 57) dX5_isDigit_7 rfl ?_
    refine q_icmp_gt 16 dX5_isDigit_9 (by decide) (fun cB => ?_) (fun cB => ?_)
    · rw [show isDg c = false by
          unfold isDg
          rw [Bool.and_eq_false_iff, decide_eq_false_iff_not, decide_eq_false_iff_not]
          first | exact Or.inr (fun z => absurd cB (nI_nlt (a := 57) z (by omega))) | exact Or.inl (fun z => absurd cA (nI_nlt (b := 48) z (by omega)))]
      refine q_iconst (v := 0) dX5_isDigit_16 rfl ?_
      exact q_zret dX5_isDigit_17 rfl (rfl) (Nat.zero_le _) (Nat.zero_le _) (⟨rfl, rfl, rfl⟩)
    · rw [show isDg c = true by
          unfold isDg
          rw [Bool.and_eq_true, decide_eq_true_eq, decide_eq_true_eq]
          exact ⟨Nat.le_of_not_lt (fun z => cA (nI_lt (b := 48) z (by omega))), Nat.le_of_not_lt (fun z => cB (nI_lt (a := 57) z (by omega)))⟩]
      refine q_iconst (v := 1) dX5_isDigit_12 rfl ?_
      refine q_goto 17 dX5_isDigit_13 (by decide) ?_
      exact q_zret dX5_isDigit_17 rfl (rfl) (Nat.zero_le _) (Nat.zero_le _) (⟨rfl, rfl, rfl⟩)
theorem c_isLetter {c : Nat} (hc : c < 256) : Det Γ l mX5_isLetter rX5_isLetter [.int (nI c)] as h (some (.int (bI (isLt c)))) h := by
  refine Con.of (by decide +kernel) rfl rfl (Nat.le_of_ble_eq_true rfl) ?_
  refine q_iload_n dX5_isLetter_0 rfl rfl ?_
  refine q_bipush (v := 97) dX5_isLetter_1 rfl ?_
  refine q_icmp_lt 16 dX5_isLetter_3 (by decide) (fun cA => ?_) (fun cA => ?_)
  · rw [show isLt c = false by
        unfold isLt
        rw [Bool.and_eq_false_iff, decide_eq_false_iff_not, decide_eq_false_iff_not]
        first | exact Or.inr (fun z => absurd cB (nI_nlt (a := 122) z (by omega))) | exact Or.inl (fun z => absurd cA (nI_nlt (b := 97) z (by omega)))]
    refine q_iconst (v := 0) dX5_isLetter_16 rfl ?_
    exact q_zret dX5_isLetter_17 rfl (rfl) (Nat.zero_le _) (Nat.zero_le _) (⟨rfl, rfl, rfl⟩)
  · refine q_iload_n dX5_isLetter_6 rfl rfl ?_
    refine q_bipush (v := 122) dX5_isLetter_7 rfl ?_
    refine q_icmp_gt 16 dX5_isLetter_9 (by decide) (fun cB => ?_) (fun cB => ?_)
    · rw [show isLt c = false by
          unfold isLt
          rw [Bool.and_eq_false_iff, decide_eq_false_iff_not, decide_eq_false_iff_not]
          first | exact Or.inr (fun z => absurd cB (nI_nlt (a := 122) z (by omega))) | exact Or.inl (fun z => absurd cA (nI_nlt (b := 97) z (by omega)))]
      refine q_iconst (v := 0) dX5_isLetter_16 rfl ?_
      exact q_zret dX5_isLetter_17 rfl (rfl) (Nat.zero_le _) (Nat.zero_le _) (⟨rfl, rfl, rfl⟩)
    · rw [show isLt c = true by
          unfold isLt
          rw [Bool.and_eq_true, decide_eq_true_eq, decide_eq_true_eq]
          exact ⟨Nat.le_of_not_lt (fun z => cA (nI_lt (b := 97) z (by omega))), Nat.le_of_not_lt (fun z => cB (nI_lt (a := 122) z (by omega)))⟩]
      refine q_iconst (v := 1) dX5_isLetter_12 rfl ?_
      refine q_goto 17 dX5_isLetter_13 (by decide) ?_
      exact q_zret dX5_isLetter_17 rfl (rfl) (Nat.zero_le _) (Nat.zero_le _) (⟨rfl, rfl, rfl⟩)
theorem wordIs_loop {i : Nat} (hi : i < 5) (hq : hat as h q (tq b len a s k v)) (hb : hat as h b (aI Γ 300 bx)) (ht : ∀ j, j < len → bx j = nI (t j) ∧ t j < 256) (hl : len ≤ 300) (hs : s + sLn i ≤ len) {r0 : Bool} : ∀ (d j : Nat) (y : Int32) (ls : List (Nat × Value)), j + d = sLn i → r0 = weq t s i d j → y = nI j → lin ls [(0, .ref q), (1, .ref (gX Γ (1010 + i))), (2, .int y)] → V Γ l mX5_wordIs rX5_wordIs (Zm Γ rX5_wordIs (qD (some (.int (bI r0))) as h)) 0 0 20 ls [] as h := by
  have h5 := sLn_lt i hi
  intro d
  induction d with
  | zero =>
    intro j y ls hj hr hy hll
    subst hr hy
    refine V.at ?_ hll
    refine q_iload_n dX5_wordIs_20 rfl rfl ?_
    refine q_aload_n dX5_wordIs_21 rfl rfl ?_
    refine q_callW hi dX5_wordIs_22 wX5_wordIs_92 (c_slength hi) rfl rfl rfl (Nat.le_of_ble_eq_true rfl) ⟨⟨Nat.le_of_ble_eq_true rfl, Nat.le_of_ble_eq_true rfl⟩, Nat.le_of_ble_eq_true rfl, Nat.le_of_ble_eq_true rfl⟩ ?_
    refine q_icmp_ge 55 dX5_wordIs_25 (by decide) (fun _ => ?_) (fun z => absurd (nI_le (by omega) (by omega)) z)
    refine q_iconst (v := 1) dX5_wordIs_55 rfl ?_
    exact q_zret dX5_wordIs_56 rfl (rfl) (Nat.zero_le _) (Nat.zero_le _) (⟨rfl, rfl, rfl⟩)
  | succ d ih =>
    intro j y ls hj hr hy hll
    have hc := sCN_ok i hi j (by omega)
    have htj := ht (s + j) (by omega)
    subst hy
    refine V.at ?_ hll
    refine q_iload_n dX5_wordIs_20 rfl rfl ?_
    refine q_aload_n dX5_wordIs_21 rfl rfl ?_
    refine q_callW hi dX5_wordIs_22 wX5_wordIs_92 (c_slength hi) rfl rfl rfl (Nat.le_of_ble_eq_true rfl) ⟨⟨Nat.le_of_ble_eq_true rfl, Nat.le_of_ble_eq_true rfl⟩, Nat.le_of_ble_eq_true rfl, Nat.le_of_ble_eq_true rfl⟩ ?_
    refine q_icmp_ge 55 dX5_wordIs_25 (by decide) (fun z => absurd z (nI_ge (by omega) (by omega))) (fun _ => ?_)
    refine q_aload_n dX5_wordIs_28 rfl rfl ?_
    refine q_get dX5_wordIs_29 fX5_wordIs_11 (hq) rfl ?_
    refine q_aload_n dX5_wordIs_32 rfl rfl ?_
    refine q_get dX5_wordIs_33 fX5_wordIs_41 (hq) rfl ?_
    refine q_iload_n dX5_wordIs_36 rfl rfl ?_
    refine q_iadd dX5_wordIs_37 ?_
    rw [nI_add]
    refine q_iald dX5_wordIs_38 (hb) (in_nI (show s + j < 300 by omega) (by omega)) ?_
    refine q_aload_n dX5_wordIs_39 rfl rfl ?_
    refine q_iload_n dX5_wordIs_40 rfl rfl ?_
    rw [nI_clamp (by omega), htj.1]
    refine q_callW hi dX5_wordIs_41 wX5_wordIs_96 (c_charAt hi (show j < sLn i by omega)) rfl rfl rfl (Nat.le_of_ble_eq_true rfl) ⟨⟨Nat.le_of_ble_eq_true rfl, Nat.le_of_ble_eq_true rfl⟩, Nat.le_of_ble_eq_true rfl, Nat.le_of_ble_eq_true rfl⟩ ?_
    rw [hc.1]
    refine q_icmp_eq 49 dX5_wordIs_44 (by decide) (fun cE => ?_) (fun cE => ?_)
    · have e : t (s + j) = sCN i j := (nI_eq (by omega) (by omega)).mp cE
      refine q_iinc1 dX5_wordIs_49 rfl (by decide) ?_
      refine q_goto 20 dX5_wordIs_52 (by decide) ?_
      exact ih (j + 1) _ _ (by omega) (by rw [hr]; simp only [weq]; rw [if_pos e]) (nI_s j) ⟨rfl, rfl, rfl, trivial⟩
    · have e : ¬ t (s + j) = sCN i j := fun z => cE (by rw [z])
      rw [hr, show weq t s i (d + 1) j = false by simp only [weq]; rw [if_neg e]]
      refine q_iconst (v := 0) dX5_wordIs_47 rfl ?_
      exact q_zret dX5_wordIs_48 rfl (rfl) (Nat.zero_le _) (Nat.zero_le _) (⟨rfl, rfl, rfl⟩)
theorem c_wordIs {i : Nat} (hi : i < 5) (hq : hat as h q (tq b len a s k v)) (hb : hat as h b (aI Γ 300 bx)) (ht : ∀ j, j < len → bx j = nI (t j) ∧ t j < 256) (hl : len ≤ 300) (hs : s ≤ a) (ha : a ≤ len) : Det Γ l mX5_wordIs rX5_wordIs [.ref q, .ref (gX Γ (1010 + i))] as h (some (.int (bI (wIs t s a i)))) h := by
  have h5 := sLn_lt i hi
  refine Con.of (by decide +kernel) rfl rfl (Nat.le_of_ble_eq_true rfl) ?_
  refine q_aload_n dX5_wordIs_0 rfl rfl ?_
  refine q_get dX5_wordIs_1 fX5_wordIs_23 (hq) rfl ?_
  refine q_aload_n dX5_wordIs_4 rfl rfl ?_
  refine q_get dX5_wordIs_5 fX5_wordIs_41 (hq) rfl ?_
  refine q_isub dX5_wordIs_8 ?_
  refine q_aload_n dX5_wordIs_9 rfl rfl ?_
  rw [pk_sub hs]
  refine q_callW hi dX5_wordIs_10 wX5_wordIs_92 (c_slength hi) rfl rfl rfl (Nat.le_of_ble_eq_true rfl) ⟨⟨Nat.le_of_ble_eq_true rfl, Nat.le_of_ble_eq_true rfl⟩, Nat.le_of_ble_eq_true rfl, Nat.le_of_ble_eq_true rfl⟩ ?_
  refine q_icmp_eq 18 dX5_wordIs_13 (by decide) (fun cE => ?_) (fun cE => ?_)
  · have e : a - s = sLn i := (nI_eq (by omega) (by omega)).mp cE
    rw [show wIs t s a i = weq t s i (sLn i) 0 by unfold wIs; rw [decide_eq_true e, Bool.true_and]]
    refine q_iconst (v := 0) dX5_wordIs_18 rfl ?_
    refine q_istore_n dX5_wordIs_19 rfl (by decide) ?_
    exact wordIs_loop hi hq hb ht hl (by omega) (sLn i) 0 _ _ (by omega) rfl rfl ⟨rfl, rfl, rfl, trivial⟩
  · rw [show wIs t s a i = false by unfold wIs; rw [decide_eq_false (fun z => cE (by rw [z])), Bool.false_and]]
    refine q_iconst (v := 0) dX5_wordIs_16 rfl ?_
    exact q_zret dX5_wordIs_17 rfl (rfl) (Nat.zero_le _) (Nat.zero_le _) (⟨rfl, rfl, rfl⟩)
theorem c_wordToken (hq : hat as h q (tq b len a s k v)) (hb : hat as h b (aI Γ 300 bx)) (ht : ∀ j, j < len → bx j = nI (t j) ∧ t j < 256) (hl : len ≤ 300) (hs : s ≤ a) (ha : a ≤ len) : Det Γ l mX5_wordToken rX5_wordToken [.ref q] as h (some (.int (nI (wTok t s (skp isLt t len (len - a) a))))) (hset h q (tq b len (skp isLt t len (len - a) a) s k v)) := by
  have e := hat_oa hq hb
  refine Con.of (by decide +kernel) rfl rfl (Nat.le_of_ble_eq_true rfl) ?_
  have key : ∀ (d a' : Nat) (h' : aH), a' ≤ len → s ≤ a' → len - a' = d → skp isLt t len (len - a) a = skp isLt t len d a' → h' = hset h q (tq b len a' s k v) → V Γ l mX5_wordToken rX5_wordToken (Zm Γ rX5_wordToken (qD (some (.int (nI (wTok t s (skp isLt t len (len - a) a))))) as (hset h q (tq b len (skp isLt t len (len - a) a) s k v)))) 0 0 0 [(0, .ref q)] [] as h' := by
    have tail : ∀ a', s ≤ a' → a' ≤ len → V Γ l mX5_wordToken rX5_wordToken (Zm Γ rX5_wordToken (qD (some (.int (nI (wTok t s a')))) as (hset h q (tq b len a' s k v)))) 0 0 39 [(0, .ref q)] [] as (hset h q (tq b len a' s k v)) := by
      intro a' h1 h2
      refine q_aload_n dX5_wordToken_39 rfl rfl ?_
      refine q_ldcS (i := 0) (by decide) dX5_wordToken_40 rfl ?_
      refine q_callVd dX5_wordToken_42 wX5_wordToken_80 (c_wordIs (i := 0) (by decide) (hat_set hq) (hat_ne hb e.symm) ht hl h1 h2) (hat_set hq) ⟨_, _, rfl⟩ rfl rfl (Nat.le_of_ble_eq_true rfl) ⟨⟨Nat.le_of_ble_eq_true rfl, Nat.le_of_ble_eq_true rfl⟩, Nat.le_of_ble_eq_true rfl, Nat.le_of_ble_eq_true rfl⟩ ?_
      refine q_if_eq 50 dX5_wordToken_45 (by decide) (fun cA => ?_) (fun cA => ?_)
      · refine q_aload_n dX5_wordToken_50 rfl rfl ?_
        refine q_ldcS (i := 1) (by decide) dX5_wordToken_51 rfl ?_
        refine q_callVd dX5_wordToken_53 wX5_wordToken_80 (c_wordIs (i := 1) (by decide) (hat_set hq) (hat_ne hb e.symm) ht hl h1 h2) (hat_set hq) ⟨_, _, rfl⟩ rfl rfl (Nat.le_of_ble_eq_true rfl) ⟨⟨Nat.le_of_ble_eq_true rfl, Nat.le_of_ble_eq_true rfl⟩, Nat.le_of_ble_eq_true rfl, Nat.le_of_ble_eq_true rfl⟩ ?_
        refine q_if_eq 61 dX5_wordToken_56 (by decide) (fun cB => ?_) (fun cB => ?_)
        · refine q_aload_n dX5_wordToken_61 rfl rfl ?_
          refine q_ldcS (i := 2) (by decide) dX5_wordToken_62 rfl ?_
          refine q_callVd dX5_wordToken_64 wX5_wordToken_80 (c_wordIs (i := 2) (by decide) (hat_set hq) (hat_ne hb e.symm) ht hl h1 h2) (hat_set hq) ⟨_, _, rfl⟩ rfl rfl (Nat.le_of_ble_eq_true rfl) ⟨⟨Nat.le_of_ble_eq_true rfl, Nat.le_of_ble_eq_true rfl⟩, Nat.le_of_ble_eq_true rfl, Nat.le_of_ble_eq_true rfl⟩ ?_
          refine q_if_eq 73 dX5_wordToken_67 (by decide) (fun cC => ?_) (fun cC => ?_)
          · refine q_aload_n dX5_wordToken_73 rfl rfl ?_
            refine q_ldcS (i := 3) (by decide) dX5_wordToken_74 rfl ?_
            refine q_callVd dX5_wordToken_76 wX5_wordToken_80 (c_wordIs (i := 3) (by decide) (hat_set hq) (hat_ne hb e.symm) ht hl h1 h2) (hat_set hq) ⟨_, _, rfl⟩ rfl rfl (Nat.le_of_ble_eq_true rfl) ⟨⟨Nat.le_of_ble_eq_true rfl, Nat.le_of_ble_eq_true rfl⟩, Nat.le_of_ble_eq_true rfl, Nat.le_of_ble_eq_true rfl⟩ ?_
            refine q_if_eq 85 dX5_wordToken_79 (by decide) (fun cD => ?_) (fun cD => ?_)
            · refine q_aload_n dX5_wordToken_85 rfl rfl ?_
              refine q_ldcS (i := 4) (by decide) dX5_wordToken_86 rfl ?_
              refine q_callVd dX5_wordToken_88 wX5_wordToken_80 (c_wordIs (i := 4) (by decide) (hat_set hq) (hat_ne hb e.symm) ht hl h1 h2) (hat_set hq) ⟨_, _, rfl⟩ rfl rfl (Nat.le_of_ble_eq_true rfl) ⟨⟨Nat.le_of_ble_eq_true rfl, Nat.le_of_ble_eq_true rfl⟩, Nat.le_of_ble_eq_true rfl, Nat.le_of_ble_eq_true rfl⟩ ?_
              refine q_if_eq 99 dX5_wordToken_91 (by decide) (fun cE => ?_) (fun cE => ?_)
              · refine q_iconst (v := 1) dX5_wordToken_99 rfl ?_
                exact q_iret dX5_wordToken_100 rfl (Nat.zero_le _) (Nat.zero_le _) (⟨by unfold wTok; rw [if_neg (by rw [bI_0.mp cA]; decide), if_neg (by rw [bI_0.mp cB]; decide), if_neg (by rw [bI_0.mp cC]; decide), if_neg (by rw [bI_0.mp cD]; decide)]; first | (rw [if_neg (by rw [bI_0.mp cE]; decide)]; rfl) | (rw [if_pos (bI_n.mp cE)]; rfl), rfl, rfl⟩)
              · refine q_bipush (v := 8) dX5_wordToken_94 rfl ?_
                refine q_goto 100 dX5_wordToken_96 (by decide) ?_
                exact q_iret dX5_wordToken_100 rfl (Nat.zero_le _) (Nat.zero_le _) (⟨by unfold wTok; rw [if_neg (by rw [bI_0.mp cA]; decide), if_neg (by rw [bI_0.mp cB]; decide), if_neg (by rw [bI_0.mp cC]; decide), if_neg (by rw [bI_0.mp cD]; decide)]; first | (rw [if_neg (by rw [bI_0.mp cE]; decide)]; rfl) | (rw [if_pos (bI_n.mp cE)]; rfl), rfl, rfl⟩)
            · refine q_bipush (v := 7) dX5_wordToken_82 rfl ?_
              exact q_iret dX5_wordToken_84 rfl (Nat.zero_le _) (Nat.zero_le _) (⟨by unfold wTok; rw [if_neg (by rw [bI_0.mp cA]; decide), if_neg (by rw [bI_0.mp cB]; decide), if_neg (by rw [bI_0.mp cC]; decide), if_pos (bI_n.mp cD)]; rfl, rfl, rfl⟩)
          · refine q_bipush (v := 6) dX5_wordToken_70 rfl ?_
            exact q_iret dX5_wordToken_72 rfl (Nat.zero_le _) (Nat.zero_le _) (⟨by unfold wTok; rw [if_neg (by rw [bI_0.mp cA]; decide), if_neg (by rw [bI_0.mp cB]; decide), if_pos (bI_n.mp cC)]; rfl, rfl, rfl⟩)
        · refine q_iconst (v := 5) dX5_wordToken_59 rfl ?_
          exact q_iret dX5_wordToken_60 rfl (Nat.zero_le _) (Nat.zero_le _) (⟨by unfold wTok; rw [if_neg (by rw [bI_0.mp cA]; decide), if_pos (bI_n.mp cB)]; rfl, rfl, rfl⟩)
      · refine q_iconst (v := 4) dX5_wordToken_48 rfl ?_
        exact q_iret dX5_wordToken_49 rfl (Nat.zero_le _) (Nat.zero_le _) (⟨by unfold wTok; rw [if_pos (bI_n.mp cA)]; rfl, rfl, rfl⟩)
    intro d
    induction d with
    | zero =>
      intro a' h' h1 h2 h3 h4 hh
      subst hh
      refine q_aload_n dX5_wordToken_0 rfl rfl ?_
      refine q_get dX5_wordToken_1 fX5_wordToken_23 (hat_set hq) rfl ?_
      refine q_aload_n dX5_wordToken_4 rfl rfl ?_
      refine q_get dX5_wordToken_5 fX5_wordToken_15 (hat_set hq) rfl ?_
      refine q_icmp_ge 39 dX5_wordToken_8 (by decide) (fun _ => ?_) (fun z => absurd (nI_le (by omega) (by omega)) z)
      rw [h4]
      exact tail a' h2 h1
    | succ d ih =>
      intro a' h' h1 h2 h3 h4 hh
      subst hh
      have hta := ht a' (by omega)
      refine q_aload_n dX5_wordToken_0 rfl rfl ?_
      refine q_get dX5_wordToken_1 fX5_wordToken_23 (hat_set hq) rfl ?_
      refine q_aload_n dX5_wordToken_4 rfl rfl ?_
      refine q_get dX5_wordToken_5 fX5_wordToken_15 (hat_set hq) rfl ?_
      refine q_icmp_ge 39 dX5_wordToken_8 (by decide) (fun z => absurd z (nI_ge (by omega) (by omega))) (fun _ => ?_)
      refine q_aload_n dX5_wordToken_11 rfl rfl ?_
      refine q_get dX5_wordToken_12 fX5_wordToken_11 (hat_set hq) rfl ?_
      refine q_aload_n dX5_wordToken_15 rfl rfl ?_
      refine q_get dX5_wordToken_16 fX5_wordToken_23 (hat_set hq) rfl ?_
      refine q_iald dX5_wordToken_19 (hat_ne hb e.symm) (in_nI (show a' < 300 by omega) (by omega)) ?_
      rw [nI_clamp (by omega), hta.1]
      refine q_callSd dX5_wordToken_20 wX5_wordToken_66 (c_isLetter hta.2) rfl rfl (Nat.le_of_ble_eq_true rfl) ⟨⟨Nat.le_of_ble_eq_true rfl, Nat.le_of_ble_eq_true rfl⟩, Nat.le_of_ble_eq_true rfl, Nat.le_of_ble_eq_true rfl⟩ ?_
      refine q_if_eq 39 dX5_wordToken_23 (by decide) (fun cL => ?_) (fun cL => ?_)
      · rw [h4, show skp isLt t len (d + 1) a' = a' by simp only [skp]; rw [if_neg (by rw [bI_0.mp cL]; exact fun z => absurd z.2 (by decide))]]
        exact tail a' h2 h1
      · refine q_aload_n dX5_wordToken_26 rfl rfl ?_
        refine q_dup dX5_wordToken_27 rfl ?_
        refine q_get dX5_wordToken_28 fX5_wordToken_23 (hat_set hq) rfl ?_
        refine q_iconst (v := 1) dX5_wordToken_31 rfl ?_
        refine q_iadd dX5_wordToken_32 ?_
        refine q_put dX5_wordToken_33 pX5_wordToken_23 (hat_set hq) rfl rfl (Nat.le_of_ble_eq_true rfl) ?_
        refine q_goto 0 dX5_wordToken_36 (by decide) ?_
        exact ih (a' + 1) _ (by omega) (by omega) (by omega) (by rw [h4]; simp only [skp]; rw [if_pos ⟨by omega, bI_n.mp cL⟩]) (by rw [hset_hset, nI_s]; rfl)
  exact key (len - a) a h ha hs rfl rfl (by rw [hset_same]; exact hq.2)
end

