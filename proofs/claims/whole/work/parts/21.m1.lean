/-! THE REFERENCE (X9): its object, numbers within bounds, purses, towns told -/
abbrev mX9_in : mT := (yX9_in, RX9, cX9_in, 6, (some .boolean), wsX9_in)
abbrev rX9_in : Room := { frames := 0, cells := 0, slots := 0, locals := 0 }
theorem dX9_in_0 : decode cX9_in 0 = .ok (.lload_n 0, 1) := by decide +kernel
theorem dX9_in_1 : decode cX9_in 1 = .ok (.lload_n 2, 1) := by decide +kernel
theorem dX9_in_2 : decode cX9_in 2 = .ok (.lcmp, 1) := by decide +kernel
theorem dX9_in_3 : decode cX9_in 3 = .ok (.ifCond .lt 14, 3) := by decide +kernel
theorem dX9_in_6 : decode cX9_in 6 = .ok (.lload_n 0, 1) := by decide +kernel
theorem dX9_in_7 : decode cX9_in 7 = .ok (.lload 4, 2) := by decide +kernel
theorem dX9_in_9 : decode cX9_in 9 = .ok (.lcmp, 1) := by decide +kernel
theorem dX9_in_10 : decode cX9_in 10 = .ok (.ifCond .gt 7, 3) := by decide +kernel
theorem dX9_in_13 : decode cX9_in 13 = .ok (.iconst 1, 1) := by decide +kernel
theorem dX9_in_14 : decode cX9_in 14 = .ok (.goto 4, 3) := by decide +kernel
theorem dX9_in_17 : decode cX9_in 17 = .ok (.iconst 0, 1) := by decide +kernel
theorem dX9_in_18 : decode cX9_in 18 = .ok (.ireturn, 1) := by decide +kernel
abbrev mX9_type : mT := (yX9_type, RX9, cX9_type, 5, (some .int), wsX9_type)
abbrev rX9_type : Room := { frames := 1, cells := 0, slots := 0, locals := 25 }
theorem dX9_type_0 : decode cX9_type 0 = .ok (.iload_n 3, 1) := by decide +kernel
theorem dX9_type_1 : decode cX9_type 1 = .ok (.i2l, 1) := by decide +kernel
theorem dX9_type_2 : decode cX9_type 2 = .ok (.lconst 1, 1) := by decide +kernel
theorem dX9_type_3 : decode cX9_type 3 = .ok (.ldc2_w 58, 3) := by decide +kernel
theorem dX9_type_6 : decode cX9_type 6 = .ok (.invokestatic 60, 3) := by decide +kernel
theorem dX9_type_9 : decode cX9_type 9 = .ok (.ifCond .ne 5, 3) := by decide +kernel
theorem dX9_type_12 : decode cX9_type 12 = .ok (.iconst (-1), 1) := by decide +kernel
theorem dX9_type_13 : decode cX9_type 13 = .ok (.ireturn, 1) := by decide +kernel
theorem dX9_type_14 : decode cX9_type 14 = .ok (.aload_n 0, 1) := by decide +kernel
theorem dX9_type_15 : decode cX9_type 15 = .ok (.getfield 64, 3) := by decide +kernel
theorem dX9_type_18 : decode cX9_type 18 = .ok (.iload_n 3, 1) := by decide +kernel
theorem dX9_type_19 : decode cX9_type 19 = .ok (.iadd, 1) := by decide +kernel
theorem dX9_type_20 : decode cX9_type 20 = .ok (.sipush 300, 3) := by decide +kernel
theorem dX9_type_23 : decode cX9_type 23 = .ok (.if_icmp .le 6, 3) := by decide +kernel
theorem dX9_type_26 : decode cX9_type 26 = .ok (.bipush (-3), 2) := by decide +kernel
theorem dX9_type_28 : decode cX9_type 28 = .ok (.ireturn, 1) := by decide +kernel
theorem dX9_type_29 : decode cX9_type 29 = .ok (.iload_n 3, 1) := by decide +kernel
theorem dX9_type_30 : decode cX9_type 30 = .ok (.iconst 1, 1) := by decide +kernel
theorem dX9_type_31 : decode cX9_type 31 = .ok (.isub, 1) := by decide +kernel
theorem dX9_type_32 : decode cX9_type 32 = .ok (.istore 4, 2) := by decide +kernel
theorem dX9_type_34 : decode cX9_type 34 = .ok (.iload 4, 2) := by decide +kernel
theorem dX9_type_36 : decode cX9_type 36 = .ok (.ifCond .lt 41, 3) := by decide +kernel
theorem dX9_type_39 : decode cX9_type 39 = .ok (.aload_n 0, 1) := by decide +kernel
theorem dX9_type_40 : decode cX9_type 40 = .ok (.getfield 7, 3) := by decide +kernel
theorem dX9_type_43 : decode cX9_type 43 = .ok (.aload_n 0, 1) := by decide +kernel
theorem dX9_type_44 : decode cX9_type 44 = .ok (.getfield 64, 3) := by decide +kernel
theorem dX9_type_47 : decode cX9_type 47 = .ok (.lload_n 1, 1) := by decide +kernel
theorem dX9_type_48 : decode cX9_type 48 = .ok (.bipush 8, 2) := by decide +kernel
theorem dX9_type_50 : decode cX9_type 50 = .ok (.iload 4, 2) := by decide +kernel
theorem dX9_type_52 : decode cX9_type 52 = .ok (.imul, 1) := by decide +kernel
theorem dX9_type_53 : decode cX9_type 53 = .ok (.lshr, 1) := by decide +kernel
theorem dX9_type_54 : decode cX9_type 54 = .ok (.ldc2_w 68, 3) := by decide +kernel
theorem dX9_type_57 : decode cX9_type 57 = .ok (.land, 1) := by decide +kernel
theorem dX9_type_58 : decode cX9_type 58 = .ok (.l2i, 1) := by decide +kernel
theorem dX9_type_59 : decode cX9_type 59 = .ok (.i2b, 1) := by decide +kernel
theorem dX9_type_60 : decode cX9_type 60 = .ok (.bastore, 1) := by decide +kernel
theorem dX9_type_61 : decode cX9_type 61 = .ok (.aload_n 0, 1) := by decide +kernel
theorem dX9_type_62 : decode cX9_type 62 = .ok (.dup, 1) := by decide +kernel
theorem dX9_type_63 : decode cX9_type 63 = .ok (.getfield 64, 3) := by decide +kernel
theorem dX9_type_66 : decode cX9_type 66 = .ok (.iconst 1, 1) := by decide +kernel
theorem dX9_type_67 : decode cX9_type 67 = .ok (.iadd, 1) := by decide +kernel
theorem dX9_type_68 : decode cX9_type 68 = .ok (.putfield 64, 3) := by decide +kernel
theorem dX9_type_71 : decode cX9_type 71 = .ok (.iinc 4 (-1), 3) := by decide +kernel
theorem dX9_type_74 : decode cX9_type 74 = .ok (.goto (-40), 3) := by decide +kernel
theorem dX9_type_77 : decode cX9_type 77 = .ok (.aload_n 0, 1) := by decide +kernel
theorem dX9_type_78 : decode cX9_type 78 = .ok (.getfield 64, 3) := by decide +kernel
theorem dX9_type_81 : decode cX9_type 81 = .ok (.ireturn, 1) := by decide +kernel
theorem iX9_type_9 : ∀ w ∈ wsX90, w ∈ wsX9_type := fun w h => List.mem_cons_of_mem _ (List.mem_append_right _ h)
theorem fX9_type_7 : FL mX9_type 7 9 1 := ⟨_, _, _, rfl, by decide, iX9_type_9, by decide +kernel⟩
theorem fX9_type_64 : FL mX9_type 64 9 2 := ⟨_, _, _, rfl, by decide, iX9_type_9, by decide +kernel⟩
theorem pX9_type_64 : FP mX9_type 64 9 2 .int false := ⟨_, _, _, tyX9, rfl, by decide, iX9_type_9, by decide +kernel, tyX9_ok, nmX9, rfl, rfl, fun z => absurd z (by decide)⟩
set_option maxRecDepth 20000 in
theorem ggX9_type_X9_in : GoodIn wsX9_type wsX9_in := goodIn_r _ [8] (by decide +kernel) (by decide +kernel)
set_option maxRecDepth 20000 in
theorem gX9_type_X9_in : GoodIn wsX9_type (va_wsS RX9 60 yX9_in wsX9_in) := goodIn_app (goodIn_of _ (by decide +kernel)) ggX9_type_X9_in
theorem wX9_type_60 : CWS mX9_type 60 mX9_in 3 := ⟨gX9_type_X9_in, ⟨_, rfl⟩, by decide +kernel, by decide +kernel, by decide +kernel⟩
abbrev mX9_clear : mT := (yX9_clear, RX9, cX9_clear, 2, (some .int), wsX9_clear)
abbrev rX9_clear : Room := { frames := 0, cells := 0, slots := 0, locals := 0 }
theorem dX9_clear_0 : decode cX9_clear 0 = .ok (.aload_n 0, 1) := by decide +kernel
theorem dX9_clear_1 : decode cX9_clear 1 = .ok (.getfield 64, 3) := by decide +kernel
theorem dX9_clear_4 : decode cX9_clear 4 = .ok (.istore_n 1, 1) := by decide +kernel
theorem dX9_clear_5 : decode cX9_clear 5 = .ok (.aload_n 0, 1) := by decide +kernel
theorem dX9_clear_6 : decode cX9_clear 6 = .ok (.iconst 0, 1) := by decide +kernel
theorem dX9_clear_7 : decode cX9_clear 7 = .ok (.putfield 64, 3) := by decide +kernel
theorem dX9_clear_10 : decode cX9_clear 10 = .ok (.iload_n 1, 1) := by decide +kernel
theorem dX9_clear_11 : decode cX9_clear 11 = .ok (.ireturn, 1) := by decide +kernel
theorem iX9_clear_9 : ∀ w ∈ wsX90, w ∈ wsX9_clear := fun w h => List.mem_cons_of_mem _ (List.mem_append_right _ h)
theorem fX9_clear_64 : FL mX9_clear 64 9 2 := ⟨_, _, _, rfl, by decide, iX9_clear_9, by decide +kernel⟩
theorem pX9_clear_64 : FP mX9_clear 64 9 2 .int false := ⟨_, _, _, tyX9, rfl, by decide, iX9_clear_9, by decide +kernel, tyX9_ok, nmX9, rfl, rfl, fun z => absurd z (by decide)⟩
abbrev mX9_isPerson : mT := (yX9_isPerson, RX9, cX9_isPerson, 2, (some .boolean), wsX9_isPerson)
abbrev rX9_isPerson : Room := { frames := 1, cells := 0, slots := 0, locals := 25 }
theorem dX9_isPerson_0 : decode cX9_isPerson 0 = .ok (.iload_n 1, 1) := by decide +kernel
theorem dX9_isPerson_1 : decode cX9_isPerson 1 = .ok (.i2l, 1) := by decide +kernel
theorem dX9_isPerson_2 : decode cX9_isPerson 2 = .ok (.lconst 0, 1) := by decide +kernel
theorem dX9_isPerson_3 : decode cX9_isPerson 3 = .ok (.aload_n 0, 1) := by decide +kernel
theorem dX9_isPerson_4 : decode cX9_isPerson 4 = .ok (.getfield 111, 3) := by decide +kernel
theorem dX9_isPerson_7 : decode cX9_isPerson 7 = .ok (.iconst 1, 1) := by decide +kernel
theorem dX9_isPerson_8 : decode cX9_isPerson 8 = .ok (.isub, 1) := by decide +kernel
theorem dX9_isPerson_9 : decode cX9_isPerson 9 = .ok (.i2l, 1) := by decide +kernel
theorem dX9_isPerson_10 : decode cX9_isPerson 10 = .ok (.invokestatic 60, 3) := by decide +kernel
theorem dX9_isPerson_13 : decode cX9_isPerson 13 = .ok (.ireturn, 1) := by decide +kernel
theorem iX9_isPerson_9 : ∀ w ∈ wsX90, w ∈ wsX9_isPerson := fun w h => List.mem_cons_of_mem _ (List.mem_append_right _ h)
theorem fX9_isPerson_111 : FL mX9_isPerson 111 9 3 := ⟨_, _, _, rfl, by decide, iX9_isPerson_9, by decide +kernel⟩
set_option maxRecDepth 20000 in
theorem ggX9_isPerson_X9_in : GoodIn wsX9_isPerson wsX9_in := goodIn_r _ [5] (by decide +kernel) (by decide +kernel)
set_option maxRecDepth 20000 in
theorem gX9_isPerson_X9_in : GoodIn wsX9_isPerson (va_wsS RX9 60 yX9_in wsX9_in) := goodIn_app (goodIn_of _ (by decide +kernel)) ggX9_isPerson_X9_in
theorem wX9_isPerson_60 : CWS mX9_isPerson 60 mX9_in 3 := ⟨gX9_isPerson_X9_in, ⟨_, rfl⟩, by decide +kernel, by decide +kernel, by decide +kernel⟩
abbrev mX9_coinsOf : mT := (yX9_coinsOf, RX9, cX9_coinsOf, 4, (some .int), wsX9_coinsOf)
abbrev rX9_coinsOf : Room := { frames := 0, cells := 0, slots := 0, locals := 0 }
theorem dX9_coinsOf_0 : decode cX9_coinsOf 0 = .ok (.iconst 0, 1) := by decide +kernel
theorem dX9_coinsOf_1 : decode cX9_coinsOf 1 = .ok (.istore_n 2, 1) := by decide +kernel
theorem dX9_coinsOf_2 : decode cX9_coinsOf 2 = .ok (.iconst 0, 1) := by decide +kernel
theorem dX9_coinsOf_3 : decode cX9_coinsOf 3 = .ok (.istore_n 3, 1) := by decide +kernel
theorem dX9_coinsOf_4 : decode cX9_coinsOf 4 = .ok (.iload_n 3, 1) := by decide +kernel
theorem dX9_coinsOf_5 : decode cX9_coinsOf 5 = .ok (.bipush 10, 2) := by decide +kernel
theorem dX9_coinsOf_7 : decode cX9_coinsOf 7 = .ok (.if_icmp .ge 23, 3) := by decide +kernel
theorem dX9_coinsOf_10 : decode cX9_coinsOf 10 = .ok (.iload_n 2, 1) := by decide +kernel
theorem dX9_coinsOf_11 : decode cX9_coinsOf 11 = .ok (.aload_n 0, 1) := by decide +kernel
theorem dX9_coinsOf_12 : decode cX9_coinsOf 12 = .ok (.getfield 26, 3) := by decide +kernel
theorem dX9_coinsOf_15 : decode cX9_coinsOf 15 = .ok (.bipush 10, 2) := by decide +kernel
theorem dX9_coinsOf_17 : decode cX9_coinsOf 17 = .ok (.iload_n 1, 1) := by decide +kernel
theorem dX9_coinsOf_18 : decode cX9_coinsOf 18 = .ok (.imul, 1) := by decide +kernel
theorem dX9_coinsOf_19 : decode cX9_coinsOf 19 = .ok (.iload_n 3, 1) := by decide +kernel
theorem dX9_coinsOf_20 : decode cX9_coinsOf 20 = .ok (.iadd, 1) := by decide +kernel
theorem dX9_coinsOf_21 : decode cX9_coinsOf 21 = .ok (.iaload, 1) := by decide +kernel
theorem dX9_coinsOf_22 : decode cX9_coinsOf 22 = .ok (.iadd, 1) := by decide +kernel
theorem dX9_coinsOf_23 : decode cX9_coinsOf 23 = .ok (.istore_n 2, 1) := by decide +kernel
theorem dX9_coinsOf_24 : decode cX9_coinsOf 24 = .ok (.iinc 3 1, 3) := by decide +kernel
theorem dX9_coinsOf_27 : decode cX9_coinsOf 27 = .ok (.goto (-23), 3) := by decide +kernel
theorem dX9_coinsOf_30 : decode cX9_coinsOf 30 = .ok (.iload_n 2, 1) := by decide +kernel
theorem dX9_coinsOf_31 : decode cX9_coinsOf 31 = .ok (.ireturn, 1) := by decide +kernel
theorem iX9_coinsOf_9 : ∀ w ∈ wsX90, w ∈ wsX9_coinsOf := fun w h => List.mem_cons_of_mem _ (List.mem_append_right _ h)
theorem fX9_coinsOf_26 : FL mX9_coinsOf 26 9 13 := ⟨_, _, _, rfl, by decide, iX9_coinsOf_9, by decide +kernel⟩
abbrev mX9_person : mT := (yX9_person, RX9, cX9_person, 3, (some .int), wsX9_person)
abbrev rX9_person : Room := { frames := 2, cells := 0, slots := 0, locals := 46 }
theorem dX9_person_0 : decode cX9_person 0 = .ok (.aload_n 0, 1) := by decide +kernel
theorem dX9_person_1 : decode cX9_person 1 = .ok (.iload_n 1, 1) := by decide +kernel
theorem dX9_person_2 : decode cX9_person 2 = .ok (.invokevirtual 117, 3) := by decide +kernel
theorem dX9_person_5 : decode cX9_person 5 = .ok (.ifCond .ne 5, 3) := by decide +kernel
theorem dX9_person_8 : decode cX9_person 8 = .ok (.iconst (-1), 1) := by decide +kernel
theorem dX9_person_9 : decode cX9_person 9 = .ok (.ireturn, 1) := by decide +kernel
theorem dX9_person_10 : decode cX9_person 10 = .ok (.iload_n 2, 1) := by decide +kernel
theorem dX9_person_11 : decode cX9_person 11 = .ok (.tableswitch 67 0 4 #[33, 40, 47, 54, 61], 33) := by decide +kernel
theorem dX9_person_44 : decode cX9_person 44 = .ok (.aload_n 0, 1) := by decide +kernel
theorem dX9_person_45 : decode cX9_person 45 = .ok (.getfield 13, 3) := by decide +kernel
theorem dX9_person_48 : decode cX9_person 48 = .ok (.iload_n 1, 1) := by decide +kernel
theorem dX9_person_49 : decode cX9_person 49 = .ok (.iaload, 1) := by decide +kernel
theorem dX9_person_50 : decode cX9_person 50 = .ok (.ireturn, 1) := by decide +kernel
theorem dX9_person_51 : decode cX9_person 51 = .ok (.aload_n 0, 1) := by decide +kernel
theorem dX9_person_52 : decode cX9_person 52 = .ok (.getfield 17, 3) := by decide +kernel
theorem dX9_person_55 : decode cX9_person 55 = .ok (.iload_n 1, 1) := by decide +kernel
theorem dX9_person_56 : decode cX9_person 56 = .ok (.iaload, 1) := by decide +kernel
theorem dX9_person_57 : decode cX9_person 57 = .ok (.ireturn, 1) := by decide +kernel
theorem dX9_person_58 : decode cX9_person 58 = .ok (.aload_n 0, 1) := by decide +kernel
theorem dX9_person_59 : decode cX9_person 59 = .ok (.getfield 20, 3) := by decide +kernel
theorem dX9_person_62 : decode cX9_person 62 = .ok (.iload_n 1, 1) := by decide +kernel
theorem dX9_person_63 : decode cX9_person 63 = .ok (.iaload, 1) := by decide +kernel
theorem dX9_person_64 : decode cX9_person 64 = .ok (.ireturn, 1) := by decide +kernel
theorem dX9_person_65 : decode cX9_person 65 = .ok (.aload_n 0, 1) := by decide +kernel
theorem dX9_person_66 : decode cX9_person 66 = .ok (.getfield 23, 3) := by decide +kernel
theorem dX9_person_69 : decode cX9_person 69 = .ok (.iload_n 1, 1) := by decide +kernel
theorem dX9_person_70 : decode cX9_person 70 = .ok (.iaload, 1) := by decide +kernel
theorem dX9_person_71 : decode cX9_person 71 = .ok (.ireturn, 1) := by decide +kernel
theorem dX9_person_72 : decode cX9_person 72 = .ok (.aload_n 0, 1) := by decide +kernel
theorem dX9_person_73 : decode cX9_person 73 = .ok (.iload_n 1, 1) := by decide +kernel
theorem dX9_person_74 : decode cX9_person 74 = .ok (.invokevirtual 121, 3) := by decide +kernel
theorem dX9_person_77 : decode cX9_person 77 = .ok (.ireturn, 1) := by decide +kernel
theorem dX9_person_78 : decode cX9_person 78 = .ok (.iconst (-1), 1) := by decide +kernel
theorem dX9_person_79 : decode cX9_person 79 = .ok (.ireturn, 1) := by decide +kernel
theorem iX9_person_9 : ∀ w ∈ wsX90, w ∈ wsX9_person := fun w h => List.mem_cons_of_mem _ (List.mem_append_right _ h)
theorem fX9_person_13 : FL mX9_person 13 9 4 := ⟨_, _, _, rfl, by decide, iX9_person_9, by decide +kernel⟩
theorem fX9_person_17 : FL mX9_person 17 9 5 := ⟨_, _, _, rfl, by decide, iX9_person_9, by decide +kernel⟩
theorem fX9_person_20 : FL mX9_person 20 9 6 := ⟨_, _, _, rfl, by decide, iX9_person_9, by decide +kernel⟩
theorem fX9_person_23 : FL mX9_person 23 9 7 := ⟨_, _, _, rfl, by decide, iX9_person_9, by decide +kernel⟩
set_option maxRecDepth 20000 in
theorem ggX9_person_X9_isPerson : GoodIn wsX9_person wsX9_isPerson := goodIn_r _ [9, 10, 11, 12, 8, 13, 19, 20, 21, 22, 23, 24, 25, 26, 27, 28, 29, 30, 31, 32, 33, 34, 35, 36, 37, 38, 39, 40, 41, 42, 43] (by decide +kernel) (by decide +kernel)
set_option maxRecDepth 20000 in
theorem gX9_person_X9_isPerson : GoodIn wsX9_person (wsV RX9 117 RX9 yX9_isPerson wsX9_isPerson) := goodIn_app (goodIn_of _ (by decide +kernel)) ggX9_person_X9_isPerson
theorem wX9_person_117 : CWV mX9_person 117 mX9_isPerson 1 := ⟨gX9_person_X9_isPerson, ⟨_, rfl⟩, rfl, by decide +kernel, by decide +kernel, by decide +kernel⟩
set_option maxRecDepth 20000 in
theorem ggX9_person_X9_coinsOf : GoodIn wsX9_person wsX9_coinsOf := goodIn_r _ [17, 18, 19, 20, 21, 22, 23, 24, 25, 26, 27, 28, 29, 30, 31, 32, 33, 34, 35, 36, 37, 38, 39, 40, 41, 42, 43] (by decide +kernel) (by decide +kernel)
set_option maxRecDepth 20000 in
theorem gX9_person_X9_coinsOf : GoodIn wsX9_person (wsV RX9 121 RX9 yX9_coinsOf wsX9_coinsOf) := goodIn_app (goodIn_of _ (by decide +kernel)) ggX9_person_X9_coinsOf
theorem wX9_person_121 : CWV mX9_person 121 mX9_coinsOf 1 := ⟨gX9_person_X9_coinsOf, ⟨_, rfl⟩, rfl, by decide +kernel, by decide +kernel, by decide +kernel⟩
abbrev mX9_purse : mT := (yX9_purse, RX9, cX9_purse, 5, (some .int), wsX9_purse)
abbrev rX9_purse : Room := { frames := 2, cells := 0, slots := 0, locals := 46 }
theorem dX9_purse_0 : decode cX9_purse 0 = .ok (.aload_n 0, 1) := by decide +kernel
theorem dX9_purse_1 : decode cX9_purse 1 = .ok (.iload_n 1, 1) := by decide +kernel
theorem dX9_purse_2 : decode cX9_purse 2 = .ok (.invokevirtual 117, 3) := by decide +kernel
theorem dX9_purse_5 : decode cX9_purse 5 = .ok (.ifCond .eq 27, 3) := by decide +kernel
theorem dX9_purse_8 : decode cX9_purse 8 = .ok (.iload_n 2, 1) := by decide +kernel
theorem dX9_purse_9 : decode cX9_purse 9 = .ok (.i2l, 1) := by decide +kernel
theorem dX9_purse_10 : decode cX9_purse 10 = .ok (.lconst 0, 1) := by decide +kernel
theorem dX9_purse_11 : decode cX9_purse 11 = .ok (.ldc2_w 125, 3) := by decide +kernel
theorem dX9_purse_14 : decode cX9_purse 14 = .ok (.invokestatic 60, 3) := by decide +kernel
theorem dX9_purse_17 : decode cX9_purse 17 = .ok (.ifCond .eq 15, 3) := by decide +kernel
theorem dX9_purse_20 : decode cX9_purse 20 = .ok (.iload_n 3, 1) := by decide +kernel
theorem dX9_purse_21 : decode cX9_purse 21 = .ok (.i2l, 1) := by decide +kernel
theorem dX9_purse_22 : decode cX9_purse 22 = .ok (.lconst 0, 1) := by decide +kernel
theorem dX9_purse_23 : decode cX9_purse 23 = .ok (.ldc2_w 127, 3) := by decide +kernel
theorem dX9_purse_26 : decode cX9_purse 26 = .ok (.invokestatic 60, 3) := by decide +kernel
theorem dX9_purse_29 : decode cX9_purse 29 = .ok (.ifCond .ne 5, 3) := by decide +kernel
theorem dX9_purse_32 : decode cX9_purse 32 = .ok (.iconst (-1), 1) := by decide +kernel
theorem dX9_purse_33 : decode cX9_purse 33 = .ok (.ireturn, 1) := by decide +kernel
theorem dX9_purse_34 : decode cX9_purse 34 = .ok (.aload_n 0, 1) := by decide +kernel
theorem dX9_purse_35 : decode cX9_purse 35 = .ok (.getfield 26, 3) := by decide +kernel
theorem dX9_purse_38 : decode cX9_purse 38 = .ok (.bipush 10, 2) := by decide +kernel
theorem dX9_purse_40 : decode cX9_purse 40 = .ok (.iload_n 1, 1) := by decide +kernel
theorem dX9_purse_41 : decode cX9_purse 41 = .ok (.imul, 1) := by decide +kernel
theorem dX9_purse_42 : decode cX9_purse 42 = .ok (.iload_n 2, 1) := by decide +kernel
theorem dX9_purse_43 : decode cX9_purse 43 = .ok (.iadd, 1) := by decide +kernel
theorem dX9_purse_44 : decode cX9_purse 44 = .ok (.iaload, 1) := by decide +kernel
theorem dX9_purse_45 : decode cX9_purse 45 = .ok (.istore 4, 2) := by decide +kernel
theorem dX9_purse_47 : decode cX9_purse 47 = .ok (.aload_n 0, 1) := by decide +kernel
theorem dX9_purse_48 : decode cX9_purse 48 = .ok (.getfield 26, 3) := by decide +kernel
theorem dX9_purse_51 : decode cX9_purse 51 = .ok (.bipush 10, 2) := by decide +kernel
theorem dX9_purse_53 : decode cX9_purse 53 = .ok (.iload_n 1, 1) := by decide +kernel
theorem dX9_purse_54 : decode cX9_purse 54 = .ok (.imul, 1) := by decide +kernel
theorem dX9_purse_55 : decode cX9_purse 55 = .ok (.iload_n 2, 1) := by decide +kernel
theorem dX9_purse_56 : decode cX9_purse 56 = .ok (.iadd, 1) := by decide +kernel
theorem dX9_purse_57 : decode cX9_purse 57 = .ok (.iload_n 3, 1) := by decide +kernel
theorem dX9_purse_58 : decode cX9_purse 58 = .ok (.iastore, 1) := by decide +kernel
theorem dX9_purse_59 : decode cX9_purse 59 = .ok (.iload 4, 2) := by decide +kernel
theorem dX9_purse_61 : decode cX9_purse 61 = .ok (.ireturn, 1) := by decide +kernel
theorem iX9_purse_9 : ∀ w ∈ wsX90, w ∈ wsX9_purse := fun w h => List.mem_cons_of_mem _ (List.mem_append_right _ h)
theorem fX9_purse_26 : FL mX9_purse 26 9 13 := ⟨_, _, _, rfl, by decide, iX9_purse_9, by decide +kernel⟩
set_option maxRecDepth 20000 in
theorem ggX9_purse_X9_in : GoodIn wsX9_purse wsX9_in := goodIn_r _ [12] (by decide +kernel) (by decide +kernel)
set_option maxRecDepth 20000 in
theorem gX9_purse_X9_in : GoodIn wsX9_purse (va_wsS RX9 60 yX9_in wsX9_in) := goodIn_app (goodIn_of _ (by decide +kernel)) ggX9_purse_X9_in
theorem wX9_purse_60 : CWS mX9_purse 60 mX9_in 3 := ⟨gX9_purse_X9_in, ⟨_, rfl⟩, by decide +kernel, by decide +kernel, by decide +kernel⟩
set_option maxRecDepth 20000 in
theorem ggX9_purse_X9_isPerson : GoodIn wsX9_purse wsX9_isPerson := goodIn_r _ [8, 9, 10, 11, 7, 12, 13, 14, 15, 16, 17, 18, 19, 20, 21, 22, 23, 24, 25, 26, 27, 28, 29, 30, 31, 32, 33, 34, 35, 36, 37] (by decide +kernel) (by decide +kernel)
set_option maxRecDepth 20000 in
theorem gX9_purse_X9_isPerson : GoodIn wsX9_purse (wsV RX9 117 RX9 yX9_isPerson wsX9_isPerson) := goodIn_app (goodIn_of _ (by decide +kernel)) ggX9_purse_X9_isPerson
theorem wX9_purse_117 : CWV mX9_purse 117 mX9_isPerson 1 := ⟨gX9_purse_X9_isPerson, ⟨_, rfl⟩, rfl, by decide +kernel, by decide +kernel, by decide +kernel⟩
abbrev mX9_ofAll : mT := (yX9_ofAll, RX9, cX9_ofAll, 4, (some .int), wsX9_ofAll)
abbrev rX9_ofAll : Room := { frames := 0, cells := 0, slots := 0, locals := 0 }
theorem dX9_ofAll_0 : decode cX9_ofAll 0 = .ok (.iconst 0, 1) := by decide +kernel
theorem dX9_ofAll_1 : decode cX9_ofAll 1 = .ok (.istore_n 2, 1) := by decide +kernel
theorem dX9_ofAll_2 : decode cX9_ofAll 2 = .ok (.iconst 0, 1) := by decide +kernel
theorem dX9_ofAll_3 : decode cX9_ofAll 3 = .ok (.istore_n 3, 1) := by decide +kernel
theorem dX9_ofAll_4 : decode cX9_ofAll 4 = .ok (.iload_n 3, 1) := by decide +kernel
theorem dX9_ofAll_5 : decode cX9_ofAll 5 = .ok (.aload_n 0, 1) := by decide +kernel
theorem dX9_ofAll_6 : decode cX9_ofAll 6 = .ok (.getfield 111, 3) := by decide +kernel
theorem dX9_ofAll_9 : decode cX9_ofAll 9 = .ok (.if_icmp .ge 23, 3) := by decide +kernel
theorem dX9_ofAll_12 : decode cX9_ofAll 12 = .ok (.iload_n 2, 1) := by decide +kernel
theorem dX9_ofAll_13 : decode cX9_ofAll 13 = .ok (.aload_n 0, 1) := by decide +kernel
theorem dX9_ofAll_14 : decode cX9_ofAll 14 = .ok (.getfield 26, 3) := by decide +kernel
theorem dX9_ofAll_17 : decode cX9_ofAll 17 = .ok (.bipush 10, 2) := by decide +kernel
theorem dX9_ofAll_19 : decode cX9_ofAll 19 = .ok (.iload_n 3, 1) := by decide +kernel
theorem dX9_ofAll_20 : decode cX9_ofAll 20 = .ok (.imul, 1) := by decide +kernel
theorem dX9_ofAll_21 : decode cX9_ofAll 21 = .ok (.iload_n 1, 1) := by decide +kernel
theorem dX9_ofAll_22 : decode cX9_ofAll 22 = .ok (.iadd, 1) := by decide +kernel
theorem dX9_ofAll_23 : decode cX9_ofAll 23 = .ok (.iaload, 1) := by decide +kernel
theorem dX9_ofAll_24 : decode cX9_ofAll 24 = .ok (.iadd, 1) := by decide +kernel
theorem dX9_ofAll_25 : decode cX9_ofAll 25 = .ok (.istore_n 2, 1) := by decide +kernel
theorem dX9_ofAll_26 : decode cX9_ofAll 26 = .ok (.iinc 3 1, 3) := by decide +kernel
theorem dX9_ofAll_29 : decode cX9_ofAll 29 = .ok (.goto (-25), 3) := by decide +kernel
theorem dX9_ofAll_32 : decode cX9_ofAll 32 = .ok (.iload_n 2, 1) := by decide +kernel
theorem dX9_ofAll_33 : decode cX9_ofAll 33 = .ok (.ireturn, 1) := by decide +kernel
theorem iX9_ofAll_9 : ∀ w ∈ wsX90, w ∈ wsX9_ofAll := fun w h => List.mem_cons_of_mem _ (List.mem_append_right _ h)
theorem fX9_ofAll_26 : FL mX9_ofAll 26 9 13 := ⟨_, _, _, rfl, by decide, iX9_ofAll_9, by decide +kernel⟩
theorem fX9_ofAll_111 : FL mX9_ofAll 111 9 3 := ⟨_, _, _, rfl, by decide, iX9_ofAll_9, by decide +kernel⟩
abbrev mX9_coins : mT := (yX9_coins, RX9, cX9_coins, 3, (some .int), wsX9_coins)
abbrev rX9_coins : Room := { frames := 1, cells := 0, slots := 0, locals := 25 }
theorem dX9_coins_0 : decode cX9_coins 0 = .ok (.iload_n 1, 1) := by decide +kernel
theorem dX9_coins_1 : decode cX9_coins 1 = .ok (.i2l, 1) := by decide +kernel
theorem dX9_coins_2 : decode cX9_coins 2 = .ok (.ldc2_w 129, 3) := by decide +kernel
theorem dX9_coins_5 : decode cX9_coins 5 = .ok (.aload_n 0, 1) := by decide +kernel
theorem dX9_coins_6 : decode cX9_coins 6 = .ok (.getfield 111, 3) := by decide +kernel
theorem dX9_coins_9 : decode cX9_coins 9 = .ok (.iconst 1, 1) := by decide +kernel
theorem dX9_coins_10 : decode cX9_coins 10 = .ok (.isub, 1) := by decide +kernel
theorem dX9_coins_11 : decode cX9_coins 11 = .ok (.i2l, 1) := by decide +kernel
theorem dX9_coins_12 : decode cX9_coins 12 = .ok (.invokestatic 60, 3) := by decide +kernel
theorem dX9_coins_15 : decode cX9_coins 15 = .ok (.ifCond .eq 15, 3) := by decide +kernel
theorem dX9_coins_18 : decode cX9_coins 18 = .ok (.iload_n 2, 1) := by decide +kernel
theorem dX9_coins_19 : decode cX9_coins 19 = .ok (.i2l, 1) := by decide +kernel
theorem dX9_coins_20 : decode cX9_coins 20 = .ok (.lconst 0, 1) := by decide +kernel
theorem dX9_coins_21 : decode cX9_coins 21 = .ok (.ldc2_w 125, 3) := by decide +kernel
theorem dX9_coins_24 : decode cX9_coins 24 = .ok (.invokestatic 60, 3) := by decide +kernel
theorem dX9_coins_27 : decode cX9_coins 27 = .ok (.ifCond .ne 5, 3) := by decide +kernel
theorem dX9_coins_30 : decode cX9_coins 30 = .ok (.iconst (-1), 1) := by decide +kernel
theorem dX9_coins_31 : decode cX9_coins 31 = .ok (.ireturn, 1) := by decide +kernel
theorem dX9_coins_32 : decode cX9_coins 32 = .ok (.iload_n 1, 1) := by decide +kernel
theorem dX9_coins_33 : decode cX9_coins 33 = .ok (.ifCond .ge 11, 3) := by decide +kernel
theorem dX9_coins_36 : decode cX9_coins 36 = .ok (.aload_n 0, 1) := by decide +kernel
theorem dX9_coins_37 : decode cX9_coins 37 = .ok (.iload_n 2, 1) := by decide +kernel
theorem dX9_coins_38 : decode cX9_coins 38 = .ok (.invokevirtual 131, 3) := by decide +kernel
theorem dX9_coins_41 : decode cX9_coins 41 = .ok (.goto 14, 3) := by decide +kernel
theorem dX9_coins_44 : decode cX9_coins 44 = .ok (.aload_n 0, 1) := by decide +kernel
theorem dX9_coins_45 : decode cX9_coins 45 = .ok (.getfield 26, 3) := by decide +kernel
theorem dX9_coins_48 : decode cX9_coins 48 = .ok (.bipush 10, 2) := by decide +kernel
theorem dX9_coins_50 : decode cX9_coins 50 = .ok (.iload_n 1, 1) := by decide +kernel
theorem dX9_coins_51 : decode cX9_coins 51 = .ok (.imul, 1) := by decide +kernel
theorem dX9_coins_52 : decode cX9_coins 52 = .ok (.iload_n 2, 1) := by decide +kernel
theorem dX9_coins_53 : decode cX9_coins 53 = .ok (.iadd, 1) := by decide +kernel
theorem dX9_coins_54 : decode cX9_coins 54 = .ok (.iaload, 1) := by decide +kernel
theorem dX9_coins_55 : decode cX9_coins 55 = .ok (.ireturn, 1) := by decide +kernel
theorem iX9_coins_9 : ∀ w ∈ wsX90, w ∈ wsX9_coins := fun w h => List.mem_cons_of_mem _ (List.mem_append_right _ h)
theorem fX9_coins_26 : FL mX9_coins 26 9 13 := ⟨_, _, _, rfl, by decide, iX9_coins_9, by decide +kernel⟩
theorem fX9_coins_111 : FL mX9_coins 111 9 3 := ⟨_, _, _, rfl, by decide, iX9_coins_9, by decide +kernel⟩
set_option maxRecDepth 20000 in
theorem ggX9_coins_X9_in : GoodIn wsX9_coins wsX9_in := goodIn_r _ [8] (by decide +kernel) (by decide +kernel)
set_option maxRecDepth 20000 in
theorem gX9_coins_X9_in : GoodIn wsX9_coins (va_wsS RX9 60 yX9_in wsX9_in) := goodIn_app (goodIn_of _ (by decide +kernel)) ggX9_coins_X9_in
theorem wX9_coins_60 : CWS mX9_coins 60 mX9_in 3 := ⟨gX9_coins_X9_in, ⟨_, rfl⟩, by decide +kernel, by decide +kernel, by decide +kernel⟩
set_option maxRecDepth 20000 in
theorem ggX9_coins_X9_ofAll : GoodIn wsX9_coins wsX9_ofAll := goodIn_r _ [12, 2, 4, 13, 14, 15, 16, 17, 18, 19, 20, 21, 22, 23, 24, 25, 26, 27, 28, 29, 30, 31, 32, 33, 34, 35, 36, 37] (by decide +kernel) (by decide +kernel)
set_option maxRecDepth 20000 in
theorem gX9_coins_X9_ofAll : GoodIn wsX9_coins (wsV RX9 131 RX9 yX9_ofAll wsX9_ofAll) := goodIn_app (goodIn_of _ (by decide +kernel)) ggX9_coins_X9_ofAll
theorem wX9_coins_131 : CWV mX9_coins 131 mX9_ofAll 1 := ⟨gX9_coins_X9_ofAll, ⟨_, rfl⟩, rfl, by decide +kernel, by decide +kernel, by decide +kernel⟩
abbrev mX9_highOf : mT := (yX9_highOf, RX9, cX9_highOf, 1, (some .int), wsX9_highOf)
abbrev rX9_highOf : Room := { frames := 0, cells := 0, slots := 0, locals := 0 }
theorem dX9_highOf_0 : decode cX9_highOf 0 = .ok (.iload_n 0, 1) := by decide +kernel
theorem dX9_highOf_1 : decode cX9_highOf 1 = .ok (.ifCond .ne 8, 3) := by decide +kernel
theorem dX9_highOf_4 : decode cX9_highOf 4 = .ok (.bipush 9, 2) := by decide +kernel
theorem dX9_highOf_6 : decode cX9_highOf 6 = .ok (.goto 25, 3) := by decide +kernel
theorem dX9_highOf_9 : decode cX9_highOf 9 = .ok (.iload_n 0, 1) := by decide +kernel
theorem dX9_highOf_10 : decode cX9_highOf 10 = .ok (.iconst 3, 1) := by decide +kernel
theorem dX9_highOf_11 : decode cX9_highOf 11 = .ok (.if_icmp .ne 8, 3) := by decide +kernel
theorem dX9_highOf_14 : decode cX9_highOf 14 = .ok (.bipush 10, 2) := by decide +kernel
theorem dX9_highOf_16 : decode cX9_highOf 16 = .ok (.goto 15, 3) := by decide +kernel
theorem dX9_highOf_19 : decode cX9_highOf 19 = .ok (.iload_n 0, 1) := by decide +kernel
theorem dX9_highOf_20 : decode cX9_highOf 20 = .ok (.iconst 4, 1) := by decide +kernel
theorem dX9_highOf_21 : decode cX9_highOf 21 = .ok (.if_icmp .ne 8, 3) := by decide +kernel
theorem dX9_highOf_24 : decode cX9_highOf 24 = .ok (.bipush 20, 2) := by decide +kernel
theorem dX9_highOf_26 : decode cX9_highOf 26 = .ok (.goto 5, 3) := by decide +kernel
theorem dX9_highOf_29 : decode cX9_highOf 29 = .ok (.bipush 99, 2) := by decide +kernel
theorem dX9_highOf_31 : decode cX9_highOf 31 = .ok (.ireturn, 1) := by decide +kernel
abbrev mX9_tune : mT := (yX9_tune, RX9, cX9_tune, 4, (some .int), wsX9_tune)
abbrev rX9_tune : Room := { frames := 1, cells := 0, slots := 0, locals := 25 }
theorem dX9_tune_0 : decode cX9_tune 0 = .ok (.iload_n 1, 1) := by decide +kernel
theorem dX9_tune_1 : decode cX9_tune 1 = .ok (.i2l, 1) := by decide +kernel
theorem dX9_tune_2 : decode cX9_tune 2 = .ok (.lconst 0, 1) := by decide +kernel
theorem dX9_tune_3 : decode cX9_tune 3 = .ok (.ldc2_w 134, 3) := by decide +kernel
theorem dX9_tune_6 : decode cX9_tune 6 = .ok (.invokestatic 60, 3) := by decide +kernel
theorem dX9_tune_9 : decode cX9_tune 9 = .ok (.ifCond .eq 26, 3) := by decide +kernel
theorem dX9_tune_12 : decode cX9_tune 12 = .ok (.iload_n 2, 1) := by decide +kernel
theorem dX9_tune_13 : decode cX9_tune 13 = .ok (.i2l, 1) := by decide +kernel
theorem dX9_tune_14 : decode cX9_tune 14 = .ok (.iload_n 1, 1) := by decide +kernel
theorem dX9_tune_15 : decode cX9_tune 15 = .ok (.iconst 5, 1) := by decide +kernel
theorem dX9_tune_16 : decode cX9_tune 16 = .ok (.if_icmp .ne 7, 3) := by decide +kernel
theorem dX9_tune_19 : decode cX9_tune 19 = .ok (.lconst 1, 1) := by decide +kernel
theorem dX9_tune_20 : decode cX9_tune 20 = .ok (.goto 4, 3) := by decide +kernel
theorem dX9_tune_23 : decode cX9_tune 23 = .ok (.lconst 0, 1) := by decide +kernel
theorem dX9_tune_24 : decode cX9_tune 24 = .ok (.iload_n 1, 1) := by decide +kernel
theorem dX9_tune_25 : decode cX9_tune 25 = .ok (.invokestatic 136, 3) := by decide +kernel
theorem dX9_tune_28 : decode cX9_tune 28 = .ok (.i2l, 1) := by decide +kernel
theorem dX9_tune_29 : decode cX9_tune 29 = .ok (.invokestatic 60, 3) := by decide +kernel
theorem dX9_tune_32 : decode cX9_tune 32 = .ok (.ifCond .ne 5, 3) := by decide +kernel
theorem dX9_tune_35 : decode cX9_tune 35 = .ok (.iconst (-1), 1) := by decide +kernel
theorem dX9_tune_36 : decode cX9_tune 36 = .ok (.ireturn, 1) := by decide +kernel
theorem dX9_tune_37 : decode cX9_tune 37 = .ok (.aload_n 0, 1) := by decide +kernel
theorem dX9_tune_38 : decode cX9_tune 38 = .ok (.getfield 39, 3) := by decide +kernel
theorem dX9_tune_41 : decode cX9_tune 41 = .ok (.iload_n 1, 1) := by decide +kernel
theorem dX9_tune_42 : decode cX9_tune 42 = .ok (.iaload, 1) := by decide +kernel
theorem dX9_tune_43 : decode cX9_tune 43 = .ok (.istore_n 3, 1) := by decide +kernel
theorem dX9_tune_44 : decode cX9_tune 44 = .ok (.aload_n 0, 1) := by decide +kernel
theorem dX9_tune_45 : decode cX9_tune 45 = .ok (.getfield 39, 3) := by decide +kernel
theorem dX9_tune_48 : decode cX9_tune 48 = .ok (.iload_n 1, 1) := by decide +kernel
theorem dX9_tune_49 : decode cX9_tune 49 = .ok (.iload_n 2, 1) := by decide +kernel
theorem dX9_tune_50 : decode cX9_tune 50 = .ok (.iastore, 1) := by decide +kernel
theorem dX9_tune_51 : decode cX9_tune 51 = .ok (.iload_n 3, 1) := by decide +kernel
theorem dX9_tune_52 : decode cX9_tune 52 = .ok (.ireturn, 1) := by decide +kernel
theorem iX9_tune_9 : ∀ w ∈ wsX90, w ∈ wsX9_tune := fun w h => List.mem_cons_of_mem _ (List.mem_append_right _ h)
theorem fX9_tune_39 : FL mX9_tune 39 9 17 := ⟨_, _, _, rfl, by decide, iX9_tune_9, by decide +kernel⟩
set_option maxRecDepth 20000 in
theorem ggX9_tune_X9_in : GoodIn wsX9_tune wsX9_in := goodIn_r _ [6] (by decide +kernel) (by decide +kernel)
set_option maxRecDepth 20000 in
theorem gX9_tune_X9_in : GoodIn wsX9_tune (va_wsS RX9 60 yX9_in wsX9_in) := goodIn_app (goodIn_of _ (by decide +kernel)) ggX9_tune_X9_in
theorem wX9_tune_60 : CWS mX9_tune 60 mX9_in 3 := ⟨gX9_tune_X9_in, ⟨_, rfl⟩, by decide +kernel, by decide +kernel, by decide +kernel⟩
set_option maxRecDepth 20000 in
theorem ggX9_tune_X9_highOf : GoodIn wsX9_tune wsX9_highOf := goodIn_r _ [9] (by decide +kernel) (by decide +kernel)
set_option maxRecDepth 20000 in
theorem gX9_tune_X9_highOf : GoodIn wsX9_tune (va_wsS RX9 136 yX9_highOf wsX9_highOf) := goodIn_app (goodIn_of _ (by decide +kernel)) ggX9_tune_X9_highOf
theorem wX9_tune_136 : CWS mX9_tune 136 mX9_highOf 1 := ⟨gX9_tune_X9_highOf, ⟨_, rfl⟩, by decide +kernel, by decide +kernel, by decide +kernel⟩
abbrev mX9_lot : mT := (yX9_lot, RX9, cX9_lot, 3, (some .int), wsX9_lot)
abbrev rX9_lot : Room := { frames := 0, cells := 0, slots := 0, locals := 0 }
theorem dX9_lot_0 : decode cX9_lot 0 = .ok (.aload_n 0, 1) := by decide +kernel
theorem dX9_lot_1 : decode cX9_lot 1 = .ok (.getfield 29, 3) := by decide +kernel
theorem dX9_lot_4 : decode cX9_lot 4 = .ok (.iconst 0, 1) := by decide +kernel
theorem dX9_lot_5 : decode cX9_lot 5 = .ok (.iaload, 1) := by decide +kernel
theorem dX9_lot_6 : decode cX9_lot 6 = .ok (.istore_n 2, 1) := by decide +kernel
theorem dX9_lot_7 : decode cX9_lot 7 = .ok (.aload_n 0, 1) := by decide +kernel
theorem dX9_lot_8 : decode cX9_lot 8 = .ok (.getfield 29, 3) := by decide +kernel
theorem dX9_lot_11 : decode cX9_lot 11 = .ok (.iconst 0, 1) := by decide +kernel
theorem dX9_lot_12 : decode cX9_lot 12 = .ok (.iload_n 1, 1) := by decide +kernel
theorem dX9_lot_13 : decode cX9_lot 13 = .ok (.iastore, 1) := by decide +kernel
theorem dX9_lot_14 : decode cX9_lot 14 = .ok (.iload_n 2, 1) := by decide +kernel
theorem dX9_lot_15 : decode cX9_lot 15 = .ok (.ireturn, 1) := by decide +kernel
theorem iX9_lot_9 : ∀ w ∈ wsX90, w ∈ wsX9_lot := fun w h => List.mem_cons_of_mem _ (List.mem_append_right _ h)
theorem fX9_lot_29 : FL mX9_lot 29 9 14 := ⟨_, _, _, rfl, by decide, iX9_lot_9, by decide +kernel⟩
abbrev mX9_draw : mT := (yX9_draw, RX9, cX9_draw, 2, (some .int), wsX9_draw)
abbrev rX9_draw : Room := { frames := 0, cells := 0, slots := 0, locals := 0 }
theorem dX9_draw_0 : decode cX9_draw 0 = .ok (.aload_n 0, 1) := by decide +kernel
theorem dX9_draw_1 : decode cX9_draw 1 = .ok (.getfield 29, 3) := by decide +kernel
theorem dX9_draw_4 : decode cX9_draw 4 = .ok (.iconst 0, 1) := by decide +kernel
theorem dX9_draw_5 : decode cX9_draw 5 = .ok (.aload_n 0, 1) := by decide +kernel
theorem dX9_draw_6 : decode cX9_draw 6 = .ok (.getfield 29, 3) := by decide +kernel
theorem dX9_draw_9 : decode cX9_draw 9 = .ok (.iconst 0, 1) := by decide +kernel
theorem dX9_draw_10 : decode cX9_draw 10 = .ok (.iaload, 1) := by decide +kernel
theorem dX9_draw_11 : decode cX9_draw 11 = .ok (.ldc 139, 2) := by decide +kernel
theorem dX9_draw_13 : decode cX9_draw 13 = .ok (.imul, 1) := by decide +kernel
theorem dX9_draw_14 : decode cX9_draw 14 = .ok (.sipush 12345, 3) := by decide +kernel
theorem dX9_draw_17 : decode cX9_draw 17 = .ok (.iadd, 1) := by decide +kernel
theorem dX9_draw_18 : decode cX9_draw 18 = .ok (.iastore, 1) := by decide +kernel
theorem dX9_draw_19 : decode cX9_draw 19 = .ok (.aload_n 0, 1) := by decide +kernel
theorem dX9_draw_20 : decode cX9_draw 20 = .ok (.getfield 29, 3) := by decide +kernel
theorem dX9_draw_23 : decode cX9_draw 23 = .ok (.iconst 0, 1) := by decide +kernel
theorem dX9_draw_24 : decode cX9_draw 24 = .ok (.iaload, 1) := by decide +kernel
theorem dX9_draw_25 : decode cX9_draw 25 = .ok (.bipush 16, 2) := by decide +kernel
theorem dX9_draw_27 : decode cX9_draw 27 = .ok (.iushr, 1) := by decide +kernel
theorem dX9_draw_28 : decode cX9_draw 28 = .ok (.iload_n 1, 1) := by decide +kernel
theorem dX9_draw_29 : decode cX9_draw 29 = .ok (.irem, 1) := by decide +kernel
theorem dX9_draw_30 : decode cX9_draw 30 = .ok (.ireturn, 1) := by decide +kernel
theorem iX9_draw_9 : ∀ w ∈ wsX90, w ∈ wsX9_draw := fun w h => List.mem_cons_of_mem _ (List.mem_append_right _ h)
theorem fX9_draw_29 : FL mX9_draw 29 9 14 := ⟨_, _, _, rfl, by decide, iX9_draw_9, by decide +kernel⟩
abbrev mX9_met : mT := (yX9_met, RX9, cX9_met, 2, (some .int), wsX9_met)
abbrev rX9_met : Room := { frames := 1, cells := 0, slots := 0, locals := 25 }
theorem dX9_met_0 : decode cX9_met 0 = .ok (.iload_n 1, 1) := by decide +kernel
theorem dX9_met_1 : decode cX9_met 1 = .ok (.i2l, 1) := by decide +kernel
theorem dX9_met_2 : decode cX9_met 2 = .ok (.lconst 0, 1) := by decide +kernel
theorem dX9_met_3 : decode cX9_met 3 = .ok (.ldc2_w 148, 3) := by decide +kernel
theorem dX9_met_6 : decode cX9_met 6 = .ok (.invokestatic 60, 3) := by decide +kernel
theorem dX9_met_9 : decode cX9_met 9 = .ok (.ifCond .eq 12, 3) := by decide +kernel
theorem dX9_met_12 : decode cX9_met 12 = .ok (.aload_n 0, 1) := by decide +kernel
theorem dX9_met_13 : decode cX9_met 13 = .ok (.getfield 42, 3) := by decide +kernel
theorem dX9_met_16 : decode cX9_met 16 = .ok (.iload_n 1, 1) := by decide +kernel
theorem dX9_met_17 : decode cX9_met 17 = .ok (.iaload, 1) := by decide +kernel
theorem dX9_met_18 : decode cX9_met 18 = .ok (.goto 4, 3) := by decide +kernel
theorem dX9_met_21 : decode cX9_met 21 = .ok (.iconst (-1), 1) := by decide +kernel
theorem dX9_met_22 : decode cX9_met 22 = .ok (.ireturn, 1) := by decide +kernel
theorem iX9_met_9 : ∀ w ∈ wsX90, w ∈ wsX9_met := fun w h => List.mem_cons_of_mem _ (List.mem_append_right _ h)
theorem fX9_met_42 : FL mX9_met 42 9 18 := ⟨_, _, _, rfl, by decide, iX9_met_9, by decide +kernel⟩
set_option maxRecDepth 20000 in
theorem ggX9_met_X9_in : GoodIn wsX9_met wsX9_in := goodIn_r _ [6] (by decide +kernel) (by decide +kernel)
set_option maxRecDepth 20000 in
theorem gX9_met_X9_in : GoodIn wsX9_met (va_wsS RX9 60 yX9_in wsX9_in) := goodIn_app (goodIn_of _ (by decide +kernel)) ggX9_met_X9_in
theorem wX9_met_60 : CWS mX9_met 60 mX9_in 3 := ⟨gX9_met_X9_in, ⟨_, rfl⟩, by decide +kernel, by decide +kernel, by decide +kernel⟩
abbrev mX9_allCoins : mT := (yX9_allCoins, RX9, cX9_allCoins, 3, (some .int), wsX9_allCoins)
abbrev rX9_allCoins : Room := { frames := 1, cells := 0, slots := 0, locals := 23 }
theorem dX9_allCoins_0 : decode cX9_allCoins 0 = .ok (.iconst 0, 1) := by decide +kernel
theorem dX9_allCoins_1 : decode cX9_allCoins 1 = .ok (.istore_n 1, 1) := by decide +kernel
theorem dX9_allCoins_2 : decode cX9_allCoins 2 = .ok (.iconst 0, 1) := by decide +kernel
theorem dX9_allCoins_3 : decode cX9_allCoins 3 = .ok (.istore_n 2, 1) := by decide +kernel
theorem dX9_allCoins_4 : decode cX9_allCoins 4 = .ok (.iload_n 2, 1) := by decide +kernel
theorem dX9_allCoins_5 : decode cX9_allCoins 5 = .ok (.bipush 10, 2) := by decide +kernel
theorem dX9_allCoins_7 : decode cX9_allCoins 7 = .ok (.if_icmp .ge 17, 3) := by decide +kernel
theorem dX9_allCoins_10 : decode cX9_allCoins 10 = .ok (.iload_n 1, 1) := by decide +kernel
theorem dX9_allCoins_11 : decode cX9_allCoins 11 = .ok (.aload_n 0, 1) := by decide +kernel
theorem dX9_allCoins_12 : decode cX9_allCoins 12 = .ok (.iload_n 2, 1) := by decide +kernel
theorem dX9_allCoins_13 : decode cX9_allCoins 13 = .ok (.invokevirtual 131, 3) := by decide +kernel
theorem dX9_allCoins_16 : decode cX9_allCoins 16 = .ok (.iadd, 1) := by decide +kernel
theorem dX9_allCoins_17 : decode cX9_allCoins 17 = .ok (.istore_n 1, 1) := by decide +kernel
theorem dX9_allCoins_18 : decode cX9_allCoins 18 = .ok (.iinc 2 1, 3) := by decide +kernel
theorem dX9_allCoins_21 : decode cX9_allCoins 21 = .ok (.goto (-17), 3) := by decide +kernel
theorem dX9_allCoins_24 : decode cX9_allCoins 24 = .ok (.iload_n 1, 1) := by decide +kernel
theorem dX9_allCoins_25 : decode cX9_allCoins 25 = .ok (.ireturn, 1) := by decide +kernel
set_option maxRecDepth 20000 in
theorem ggX9_allCoins_X9_ofAll : GoodIn wsX9_allCoins wsX9_ofAll := goodIn_r _ [5, 6, 7, 8, 9, 10, 11, 12, 13, 14, 15, 16, 17, 18, 19, 20, 21, 22, 23, 24, 25, 26, 27, 28, 29, 30, 31, 32] (by decide +kernel) (by decide +kernel)
set_option maxRecDepth 20000 in
theorem gX9_allCoins_X9_ofAll : GoodIn wsX9_allCoins (wsV RX9 131 RX9 yX9_ofAll wsX9_ofAll) := goodIn_app (goodIn_of _ (by decide +kernel)) ggX9_allCoins_X9_ofAll
theorem wX9_allCoins_131 : CWV mX9_allCoins 131 mX9_ofAll 1 := ⟨gX9_allCoins_X9_ofAll, ⟨_, rfl⟩, rfl, by decide +kernel, by decide +kernel, by decide +kernel⟩
abbrev mX9_grains : mT := (yX9_grains, RX9, cX9_grains, 8, (some .int), wsX9_grains)
abbrev rX9_grains : Room := { frames := 1, cells := 0, slots := 0, locals := 23 }
theorem dX9_grains_0 : decode cX9_grains 0 = .ok (.iload_n 1, 1) := by decide +kernel
theorem dX9_grains_1 : decode cX9_grains 1 = .ok (.istore_n 3, 1) := by decide +kernel
theorem dX9_grains_2 : decode cX9_grains 2 = .ok (.iconst 0, 1) := by decide +kernel
theorem dX9_grains_3 : decode cX9_grains 3 = .ok (.istore 4, 2) := by decide +kernel
theorem dX9_grains_5 : decode cX9_grains 5 = .ok (.iconst 0, 1) := by decide +kernel
theorem dX9_grains_6 : decode cX9_grains 6 = .ok (.istore 5, 2) := by decide +kernel
theorem dX9_grains_8 : decode cX9_grains 8 = .ok (.iload 5, 2) := by decide +kernel
theorem dX9_grains_10 : decode cX9_grains 10 = .ok (.bipush 10, 2) := by decide +kernel
theorem dX9_grains_12 : decode cX9_grains 12 = .ok (.if_icmp .ge 65, 3) := by decide +kernel
theorem dX9_grains_15 : decode cX9_grains 15 = .ok (.iload_n 2, 1) := by decide +kernel
theorem dX9_grains_16 : decode cX9_grains 16 = .ok (.ifCond .eq 8, 3) := by decide +kernel
theorem dX9_grains_19 : decode cX9_grains 19 = .ok (.iload 5, 2) := by decide +kernel
theorem dX9_grains_21 : decode cX9_grains 21 = .ok (.goto 8, 3) := by decide +kernel
theorem dX9_grains_24 : decode cX9_grains 24 = .ok (.bipush 9, 2) := by decide +kernel
theorem dX9_grains_26 : decode cX9_grains 26 = .ok (.iload 5, 2) := by decide +kernel
theorem dX9_grains_28 : decode cX9_grains 28 = .ok (.isub, 1) := by decide +kernel
theorem dX9_grains_29 : decode cX9_grains 29 = .ok (.istore 6, 2) := by decide +kernel
theorem dX9_grains_31 : decode cX9_grains 31 = .ok (.aload_n 0, 1) := by decide +kernel
theorem dX9_grains_32 : decode cX9_grains 32 = .ok (.iload 6, 2) := by decide +kernel
theorem dX9_grains_34 : decode cX9_grains 34 = .ok (.invokevirtual 131, 3) := by decide +kernel
theorem dX9_grains_37 : decode cX9_grains 37 = .ok (.iload_n 3, 1) := by decide +kernel
theorem dX9_grains_38 : decode cX9_grains 38 = .ok (.if_icmp .ge 12, 3) := by decide +kernel
theorem dX9_grains_41 : decode cX9_grains 41 = .ok (.aload_n 0, 1) := by decide +kernel
theorem dX9_grains_42 : decode cX9_grains 42 = .ok (.iload 6, 2) := by decide +kernel
theorem dX9_grains_44 : decode cX9_grains 44 = .ok (.invokevirtual 131, 3) := by decide +kernel
theorem dX9_grains_47 : decode cX9_grains 47 = .ok (.goto 4, 3) := by decide +kernel
theorem dX9_grains_50 : decode cX9_grains 50 = .ok (.iload_n 3, 1) := by decide +kernel
theorem dX9_grains_51 : decode cX9_grains 51 = .ok (.istore 7, 2) := by decide +kernel
theorem dX9_grains_53 : decode cX9_grains 53 = .ok (.iload 4, 2) := by decide +kernel
theorem dX9_grains_55 : decode cX9_grains 55 = .ok (.iload 7, 2) := by decide +kernel
theorem dX9_grains_57 : decode cX9_grains 57 = .ok (.bipush 10, 2) := by decide +kernel
theorem dX9_grains_59 : decode cX9_grains 59 = .ok (.iload 6, 2) := by decide +kernel
theorem dX9_grains_61 : decode cX9_grains 61 = .ok (.isub, 1) := by decide +kernel
theorem dX9_grains_62 : decode cX9_grains 62 = .ok (.imul, 1) := by decide +kernel
theorem dX9_grains_63 : decode cX9_grains 63 = .ok (.iadd, 1) := by decide +kernel
theorem dX9_grains_64 : decode cX9_grains 64 = .ok (.istore 4, 2) := by decide +kernel
theorem dX9_grains_66 : decode cX9_grains 66 = .ok (.iload_n 3, 1) := by decide +kernel
theorem dX9_grains_67 : decode cX9_grains 67 = .ok (.iload 7, 2) := by decide +kernel
theorem dX9_grains_69 : decode cX9_grains 69 = .ok (.isub, 1) := by decide +kernel
theorem dX9_grains_70 : decode cX9_grains 70 = .ok (.istore_n 3, 1) := by decide +kernel
theorem dX9_grains_71 : decode cX9_grains 71 = .ok (.iinc 5 1, 3) := by decide +kernel
theorem dX9_grains_74 : decode cX9_grains 74 = .ok (.goto (-66), 3) := by decide +kernel
theorem dX9_grains_77 : decode cX9_grains 77 = .ok (.iload 4, 2) := by decide +kernel
theorem dX9_grains_79 : decode cX9_grains 79 = .ok (.ireturn, 1) := by decide +kernel
set_option maxRecDepth 20000 in
theorem ggX9_grains_X9_ofAll : GoodIn wsX9_grains wsX9_ofAll := goodIn_r _ [5, 6, 7, 8, 9, 10, 11, 12, 13, 14, 15, 16, 17, 18, 19, 20, 21, 22, 23, 24, 25, 26, 27, 28, 29, 30, 31, 32] (by decide +kernel) (by decide +kernel)
set_option maxRecDepth 20000 in
theorem gX9_grains_X9_ofAll : GoodIn wsX9_grains (wsV RX9 131 RX9 yX9_ofAll wsX9_ofAll) := goodIn_app (goodIn_of _ (by decide +kernel)) ggX9_grains_X9_ofAll
theorem wX9_grains_131 : CWV mX9_grains 131 mX9_ofAll 1 := ⟨gX9_grains_X9_ofAll, ⟨_, rfl⟩, rfl, by decide +kernel, by decide +kernel, by decide +kernel⟩
abbrev mX9_lookUp : mT := (yX9_lookUp, RX9, cX9_lookUp, 2, (some .int), wsX9_lookUp)
abbrev rX9_lookUp : Room := { frames := 2, cells := 0, slots := 0, locals := 50 }
theorem dX9_lookUp_0 : decode cX9_lookUp 0 = .ok (.bipush 10, 2) := by decide +kernel
theorem dX9_lookUp_2 : decode cX9_lookUp 2 = .ok (.aload_n 0, 1) := by decide +kernel
theorem dX9_lookUp_3 : decode cX9_lookUp 3 = .ok (.iload_n 1, 1) := by decide +kernel
theorem dX9_lookUp_4 : decode cX9_lookUp 4 = .ok (.iconst 1, 1) := by decide +kernel
theorem dX9_lookUp_5 : decode cX9_lookUp 5 = .ok (.invokevirtual 150, 3) := by decide +kernel
theorem dX9_lookUp_8 : decode cX9_lookUp 8 = .ok (.imul, 1) := by decide +kernel
theorem dX9_lookUp_9 : decode cX9_lookUp 9 = .ok (.aload_n 0, 1) := by decide +kernel
theorem dX9_lookUp_10 : decode cX9_lookUp 10 = .ok (.getfield 39, 3) := by decide +kernel
theorem dX9_lookUp_13 : decode cX9_lookUp 13 = .ok (.iconst 1, 1) := by decide +kernel
theorem dX9_lookUp_14 : decode cX9_lookUp 14 = .ok (.iaload, 1) := by decide +kernel
theorem dX9_lookUp_15 : decode cX9_lookUp 15 = .ok (.iload_n 1, 1) := by decide +kernel
theorem dX9_lookUp_16 : decode cX9_lookUp 16 = .ok (.imul, 1) := by decide +kernel
theorem dX9_lookUp_17 : decode cX9_lookUp 17 = .ok (.isub, 1) := by decide +kernel
theorem dX9_lookUp_18 : decode cX9_lookUp 18 = .ok (.ireturn, 1) := by decide +kernel
theorem iX9_lookUp_9 : ∀ w ∈ wsX90, w ∈ wsX9_lookUp := fun w h => List.mem_cons_of_mem _ (List.mem_append_right _ h)
theorem fX9_lookUp_39 : FL mX9_lookUp 39 9 17 := ⟨_, _, _, rfl, by decide, iX9_lookUp_9, by decide +kernel⟩
set_option maxRecDepth 20000 in
theorem ggX9_lookUp_X9_grains : GoodIn wsX9_lookUp wsX9_grains := goodIn_r _ [6, 7, 8, 9, 5, 10, 11, 12, 13, 14, 15, 16, 17, 18, 19, 20, 21, 22, 23, 24, 25, 26, 27, 28, 29, 30, 31, 32, 33, 34, 35, 36, 37] (by decide +kernel) (by decide +kernel)
set_option maxRecDepth 20000 in
theorem gX9_lookUp_X9_grains : GoodIn wsX9_lookUp (wsV RX9 150 RX9 yX9_grains wsX9_grains) := goodIn_app (goodIn_of _ (by decide +kernel)) ggX9_lookUp_X9_grains
theorem wX9_lookUp_150 : CWV mX9_lookUp 150 mX9_grains 2 := ⟨gX9_lookUp_X9_grains, ⟨_, rfl⟩, rfl, by decide +kernel, by decide +kernel, by decide +kernel⟩
abbrev mX9_taleUp : mT := (yX9_taleUp, RX9, cX9_taleUp, 3, (some .int), wsX9_taleUp)
abbrev rX9_taleUp : Room := { frames := 2, cells := 0, slots := 0, locals := 50 }
theorem dX9_taleUp_0 : decode cX9_taleUp 0 = .ok (.bipush 10, 2) := by decide +kernel
theorem dX9_taleUp_2 : decode cX9_taleUp 2 = .ok (.aload_n 0, 1) := by decide +kernel
theorem dX9_taleUp_3 : decode cX9_taleUp 3 = .ok (.iload_n 1, 1) := by decide +kernel
theorem dX9_taleUp_4 : decode cX9_taleUp 4 = .ok (.iload_n 2, 1) := by decide +kernel
theorem dX9_taleUp_5 : decode cX9_taleUp 5 = .ok (.isub, 1) := by decide +kernel
theorem dX9_taleUp_6 : decode cX9_taleUp 6 = .ok (.iconst 0, 1) := by decide +kernel
theorem dX9_taleUp_7 : decode cX9_taleUp 7 = .ok (.invokevirtual 150, 3) := by decide +kernel
theorem dX9_taleUp_10 : decode cX9_taleUp 10 = .ok (.imul, 1) := by decide +kernel
theorem dX9_taleUp_11 : decode cX9_taleUp 11 = .ok (.ireturn, 1) := by decide +kernel
set_option maxRecDepth 20000 in
theorem ggX9_taleUp_X9_grains : GoodIn wsX9_taleUp wsX9_grains := goodIn_r _ [5, 6, 7, 8, 4, 9, 10, 11, 12, 13, 14, 15, 16, 17, 18, 19, 20, 21, 22, 23, 24, 25, 26, 27, 28, 29, 30, 31, 32, 33, 34, 35, 36] (by decide +kernel) (by decide +kernel)
set_option maxRecDepth 20000 in
theorem gX9_taleUp_X9_grains : GoodIn wsX9_taleUp (wsV RX9 150 RX9 yX9_grains wsX9_grains) := goodIn_app (goodIn_of _ (by decide +kernel)) ggX9_taleUp_X9_grains
theorem wX9_taleUp_150 : CWV mX9_taleUp 150 mX9_grains 2 := ⟨gX9_taleUp_X9_grains, ⟨_, rfl⟩, rfl, by decide +kernel, by decide +kernel, by decide +kernel⟩
abbrev mX9_common : mT := (yX9_common, RX9, cX9_common, 10, (some .long), wsX9_common)
abbrev rX9_common : Room := { frames := 0, cells := 0, slots := 0, locals := 0 }
theorem dX9_common_0 : decode cX9_common 0 = .ok (.lload_n 0, 1) := by decide +kernel
theorem dX9_common_1 : decode cX9_common 1 = .ok (.lconst 0, 1) := by decide +kernel
theorem dX9_common_2 : decode cX9_common 2 = .ok (.lcmp, 1) := by decide +kernel
theorem dX9_common_3 : decode cX9_common 3 = .ok (.ifCond .ge 8, 3) := by decide +kernel
theorem dX9_common_6 : decode cX9_common 6 = .ok (.lload_n 0, 1) := by decide +kernel
theorem dX9_common_7 : decode cX9_common 7 = .ok (.lneg, 1) := by decide +kernel
theorem dX9_common_8 : decode cX9_common 8 = .ok (.goto 4, 3) := by decide +kernel
theorem dX9_common_11 : decode cX9_common 11 = .ok (.lload_n 0, 1) := by decide +kernel
theorem dX9_common_12 : decode cX9_common 12 = .ok (.lstore 4, 2) := by decide +kernel
theorem dX9_common_14 : decode cX9_common 14 = .ok (.lload_n 2, 1) := by decide +kernel
theorem dX9_common_15 : decode cX9_common 15 = .ok (.lstore 6, 2) := by decide +kernel
theorem dX9_common_17 : decode cX9_common 17 = .ok (.lload 6, 2) := by decide +kernel
theorem dX9_common_19 : decode cX9_common 19 = .ok (.lconst 0, 1) := by decide +kernel
theorem dX9_common_20 : decode cX9_common 20 = .ok (.lcmp, 1) := by decide +kernel
theorem dX9_common_21 : decode cX9_common 21 = .ok (.ifCond .eq 21, 3) := by decide +kernel
theorem dX9_common_24 : decode cX9_common 24 = .ok (.lload 4, 2) := by decide +kernel
theorem dX9_common_26 : decode cX9_common 26 = .ok (.lload 6, 2) := by decide +kernel
theorem dX9_common_28 : decode cX9_common 28 = .ok (.lrem, 1) := by decide +kernel
theorem dX9_common_29 : decode cX9_common 29 = .ok (.lstore 8, 2) := by decide +kernel
theorem dX9_common_31 : decode cX9_common 31 = .ok (.lload 6, 2) := by decide +kernel
theorem dX9_common_33 : decode cX9_common 33 = .ok (.lstore 4, 2) := by decide +kernel
theorem dX9_common_35 : decode cX9_common 35 = .ok (.lload 8, 2) := by decide +kernel
theorem dX9_common_37 : decode cX9_common 37 = .ok (.lstore 6, 2) := by decide +kernel
theorem dX9_common_39 : decode cX9_common 39 = .ok (.goto (-22), 3) := by decide +kernel
theorem dX9_common_42 : decode cX9_common 42 = .ok (.lload 4, 2) := by decide +kernel
theorem dX9_common_44 : decode cX9_common 44 = .ok (.lreturn, 1) := by decide +kernel
abbrev mX9_inLeast : mT := (yX9_inLeast, RX9, cX9_inLeast, 7, (some .long), wsX9_inLeast)
abbrev rX9_inLeast : Room := { frames := 1, cells := 0, slots := 0, locals := 29 }
theorem dX9_inLeast_0 : decode cX9_inLeast 0 = .ok (.lload_n 0, 1) := by decide +kernel
theorem dX9_inLeast_1 : decode cX9_inLeast 1 = .ok (.lload_n 2, 1) := by decide +kernel
theorem dX9_inLeast_2 : decode cX9_inLeast 2 = .ok (.invokestatic 154, 3) := by decide +kernel
theorem dX9_inLeast_5 : decode cX9_inLeast 5 = .ok (.lstore 5, 2) := by decide +kernel
theorem dX9_inLeast_7 : decode cX9_inLeast 7 = .ok (.iload 4, 2) := by decide +kernel
theorem dX9_inLeast_9 : decode cX9_inLeast 9 = .ok (.ifCond .ne 10, 3) := by decide +kernel
theorem dX9_inLeast_12 : decode cX9_inLeast 12 = .ok (.lload_n 0, 1) := by decide +kernel
theorem dX9_inLeast_13 : decode cX9_inLeast 13 = .ok (.lload 5, 2) := by decide +kernel
theorem dX9_inLeast_15 : decode cX9_inLeast 15 = .ok (.ldiv, 1) := by decide +kernel
theorem dX9_inLeast_16 : decode cX9_inLeast 16 = .ok (.goto 7, 3) := by decide +kernel
theorem dX9_inLeast_19 : decode cX9_inLeast 19 = .ok (.lload_n 2, 1) := by decide +kernel
theorem dX9_inLeast_20 : decode cX9_inLeast 20 = .ok (.lload 5, 2) := by decide +kernel
theorem dX9_inLeast_22 : decode cX9_inLeast 22 = .ok (.ldiv, 1) := by decide +kernel
theorem dX9_inLeast_23 : decode cX9_inLeast 23 = .ok (.lreturn, 1) := by decide +kernel
set_option maxRecDepth 20000 in
theorem ggX9_inLeast_X9_common : GoodIn wsX9_inLeast wsX9_common := goodIn_r _ [4] (by decide +kernel) (by decide +kernel)
set_option maxRecDepth 20000 in
theorem gX9_inLeast_X9_common : GoodIn wsX9_inLeast (va_wsS RX9 154 yX9_common wsX9_common) := goodIn_app (goodIn_of _ (by decide +kernel)) ggX9_inLeast_X9_common
theorem wX9_inLeast_154 : CWS mX9_inLeast 154 mX9_common 2 := ⟨gX9_inLeast_X9_common, ⟨_, rfl⟩, by decide +kernel, by decide +kernel, by decide +kernel⟩
abbrev mX9_isDay : mT := (yX9_isDay, RX9, cX9_isDay, 3, (some .boolean), wsX9_isDay)
abbrev rX9_isDay : Room := { frames := 1, cells := 0, slots := 0, locals := 25 }
theorem dX9_isDay_0 : decode cX9_isDay 0 = .ok (.iload_n 1, 1) := by decide +kernel
theorem dX9_isDay_1 : decode cX9_isDay 1 = .ok (.i2l, 1) := by decide +kernel
theorem dX9_isDay_2 : decode cX9_isDay 2 = .ok (.lconst 1, 1) := by decide +kernel
theorem dX9_isDay_3 : decode cX9_isDay 3 = .ok (.ldc2_w 158, 3) := by decide +kernel
theorem dX9_isDay_6 : decode cX9_isDay 6 = .ok (.invokestatic 60, 3) := by decide +kernel
theorem dX9_isDay_9 : decode cX9_isDay 9 = .ok (.ifCond .eq 18, 3) := by decide +kernel
theorem dX9_isDay_12 : decode cX9_isDay 12 = .ok (.iload_n 2, 1) := by decide +kernel
theorem dX9_isDay_13 : decode cX9_isDay 13 = .ok (.i2l, 1) := by decide +kernel
theorem dX9_isDay_14 : decode cX9_isDay 14 = .ok (.lconst 0, 1) := by decide +kernel
theorem dX9_isDay_15 : decode cX9_isDay 15 = .ok (.iload_n 1, 1) := by decide +kernel
theorem dX9_isDay_16 : decode cX9_isDay 16 = .ok (.i2l, 1) := by decide +kernel
theorem dX9_isDay_17 : decode cX9_isDay 17 = .ok (.invokestatic 60, 3) := by decide +kernel
theorem dX9_isDay_20 : decode cX9_isDay 20 = .ok (.ifCond .eq 7, 3) := by decide +kernel
theorem dX9_isDay_23 : decode cX9_isDay 23 = .ok (.iconst 1, 1) := by decide +kernel
theorem dX9_isDay_24 : decode cX9_isDay 24 = .ok (.goto 4, 3) := by decide +kernel
theorem dX9_isDay_27 : decode cX9_isDay 27 = .ok (.iconst 0, 1) := by decide +kernel
theorem dX9_isDay_28 : decode cX9_isDay 28 = .ok (.ireturn, 1) := by decide +kernel
set_option maxRecDepth 20000 in
theorem ggX9_isDay_X9_in : GoodIn wsX9_isDay wsX9_in := goodIn_r _ [5] (by decide +kernel) (by decide +kernel)
set_option maxRecDepth 20000 in
theorem gX9_isDay_X9_in : GoodIn wsX9_isDay (va_wsS RX9 60 yX9_in wsX9_in) := goodIn_app (goodIn_of _ (by decide +kernel)) ggX9_isDay_X9_in
theorem wX9_isDay_60 : CWS mX9_isDay 60 mX9_in 3 := ⟨gX9_isDay_X9_in, ⟨_, rfl⟩, by decide +kernel, by decide +kernel, by decide +kernel⟩
/-- the object: r its arrays, z its numbers, by the fields' places -/
abbrev mo (tc : Int64) (r : Nat → Nat) (z : Nat → Int32) : va_E := ob 9 [.long tc, .ref (r 1), .int (z 2), .int (z 3), .ref (r 4), .ref (r 5), .ref (r 6), .ref (r 7), .int (z 8), .int (z 9), .int (z 10), .int (z 11), .int (z 12), .ref (r 13), .ref (r 14), .ref (r 15), .ref (r 16), .ref (r 17), .ref (r 18), .int (z 19), .ref (r 20), .ref (r 21), .ref (r 22), .ref (r 23), .int (z 24)]
def inB (v lo hi : Int64) : Bool := decide (lo ≤ v) && decide (v ≤ hi)
theorem i64_le {x y : Int32} : x.toInt64 ≤ y.toInt64 ↔ x ≤ y := by
  rw [Int64.le_iff_toInt_le, Int32.le_iff_toInt_le, Int32.toInt_toInt64, Int32.toInt_toInt64]
theorem inB_i {x a b : Int32} {lo hi : Int64} (hlo : lo = a.toInt64) (hhi : hi = b.toInt64) : inB x.toInt64 lo hi = (decide (a ≤ x) && decide (x ≤ b)) := by
  unfold inB
  rw [hlo, hhi]
  congr 1 <;> exact decide_eq_decide.mpr i64_le
theorem inB_W {q : Int32} : inB q.toInt64 0 9 = isW q := by
  rw [inB_i (a := 0) (b := 9) (by decide) (by decide)]
  unfold isW
  congr 1
  · exact decide_eq_decide.mpr Int32.not_lt.symm
  · refine decide_eq_decide.mpr ⟨fun h z => absurd (Int32.le_trans z h) (by decide), fun h => ?_⟩
    have h1 := Int32.not_le.mp h
    rw [Int32.lt_iff_toInt_lt] at h1
    rw [Int32.le_iff_toInt_le]
    have e1 : (10 : Int32).toInt = 10 := by decide
    have e2 : (9 : Int32).toInt = 9 := by decide
    omega
theorem inB_P {n : Nat} {p : Int32} (hn : n ≤ 8) : inB p.toInt64 0 (nI n - 1).toInt64 = isP n p := by
  rw [inB_i (a := 0) (b := nI n - 1) (by decide) rfl]
  unfold isP
  congr 1
  · exact decide_eq_decide.mpr Int32.not_lt.symm
  · refine decide_eq_decide.mpr ?_
    rw [Int32.not_le, Int32.lt_iff_toInt_lt, Int32.le_iff_toInt_le, show (1 : Int32) = nI 1 from rfl, pk_sub_toInt (by omega) (by omega), nI_toInt (by omega)]
    omega
theorem ixM (p w : Nat) : 10 * nI p + nI w = nI (p * 10 + w) := by rw [show (10 : Int32) = nI 10 from rfl, pk_mul, nI_add, Nat.mul_comm]
theorem inM {p w : Nat} (hp : p < 8) (hw : w < 10) : vp_in (10 * nI p + nI w) 240 := by rw [ixM]; exact vp_in_nI (by omega) (by omega)
theorem clM {p w : Nat} (hp : p < 8) (hw : w < 10) : (10 * nI p + nI w).toNatClampNeg = p * 10 + w := by rw [ixM]; exact nI_clamp (by omega)
/-- people who aren't there have no coins -/
def zro (n : Nat) (f : Nat → Int32) : Prop := ∀ p, n ≤ p → p < 8 → ∀ w, w < 10 → f (p * 10 + w) = 0
theorem sr_zero {g : Nat → Int32} {n : Nat} : ∀ d, (∀ p, n ≤ p → p < n + d → g p = 0) → sr g 0 (n + d) = sr g 0 n := by
  intro d
  induction d with
  | zero => intro _; rfl
  | succ d ih =>
    intro h
    show sr g 0 (n + d) + g (0 + (n + d)) = _
    rw [ih (fun p h1 h2 => h p h1 (by omega)), Nat.zero_add, h (n + d) (by omega) (by omega), Int32.add_zero]
theorem sr_cut {n : Nat} {f : Nat → Int32} (hz : zro n f) (hn : n ≤ 8) {w : Nat} (hw : w < 10) : sr (fun p => f (p * 10 + w)) 0 n = pWt f w := by
  have := sr_zero (g := fun p => f (p * 10 + w)) (n := n) (8 - n) (fun p h1 h2 => hz p h1 (by omega) w hw)
  rw [show n + (8 - n) = 8 by omega] at this
  exact this.symm
theorem sr_add (g k : Nat → Int32) (a : Nat) : ∀ d, sr (fun i => g i + k i) a d = sr g a d + sr k a d := by
  intro d
  induction d with
  | zero => rfl
  | succ d ih =>
    simp only [sr]
    rw [ih, Int32.add_assoc, Int32.add_assoc, ← Int32.add_assoc (sr k a d), Int32.add_comm (sr k a d) (g (a + d)), Int32.add_assoc]
theorem sr_0 (a : Nat) : ∀ d, sr (fun _ => 0) a d = 0 := by
  intro d
  induction d with
  | zero => rfl
  | succ d ih => simp only [sr]; rw [ih]; rfl
theorem sr_swap (F : Nat → Nat → Int32) (m : Nat) : ∀ d, sr (fun i => sr (fun j => F j i) 0 m) 0 d = sr (fun j => sr (fun i => F j i) 0 d) 0 m := by
  intro d
  induction d with
  | zero => simp only [sr]; rw [sr_0]
  | succ d ih =>
    simp only [sr]
    rw [ih, sr_add (fun j => sr (fun i => F j i) 0 d) (fun j => F j (0 + d)) 0 m]
theorem pAll_sw (f : Nat → Int32) : sr (pWt f) 0 10 = pAll f := sr_swap (fun p w => f (p * 10 + w)) 8 10
def hiO (j : Nat) : Int32 := if j = 0 then 9 else if j = 3 then 10 else if j = 4 then 20 else 99
def tyM (bm : Nat → Int32) (len : Nat) (v : Int64) (n : Nat) : Nat → Nat → Int32
  | 0 => bm
  | c + 1 => upd (tyM bm len v n c) (len + c) (vp_nar .byte ((v >>> ((8 * nI (n - 1 - c)).toInt64 &&& 63)) &&& 255).toInt32.toInt8.toInt32)
section
variable {Γ : gT} {l : Launch} {as : List Nat} {h : aH} {m : Nat} {tc : Int64} {r : Nat → Nat} {z : Nat → Int32} {n len lim : Nat} {f u w x y o bm lo mt : Nat → Int32}
theorem n_in {v a b : Int64} : Det Γ l mX9_in rX9_in [.long v, .long a, .long b] as h (some (.int (bI (inB v a b)))) h := by
  refine Con.of (by decide +kernel) rfl rfl (Nat.le_of_ble_eq_true rfl) ?_
  refine q_lload_n dX9_in_0 rfl rfl ?_
  refine q_lload_n dX9_in_1 rfl rfl ?_
  refine q_lcmp dX9_in_2 ?_
  refine q_if_lt 17 dX9_in_3 (by decide) (fun cA => ?_) (fun cA => ?_)
  · rw [show inB v a b = false by
        unfold inB
        rw [Bool.and_eq_false_iff, decide_eq_false_iff_not, decide_eq_false_iff_not]
        first | exact Or.inr (Int64.not_le.mpr ((lg_cmp_gt _ _).mp cB)) | exact Or.inl (Int64.not_le.mpr ((lg_cmp_lt _ _).mp cA))]
    refine q_iconst (v := 0) dX9_in_17 rfl ?_
    exact q_zret dX9_in_18 rfl (rfl) (Nat.zero_le _) (Nat.zero_le _) (⟨rfl, rfl, rfl⟩)
  · refine q_lload_n dX9_in_6 rfl rfl ?_
    refine q_lload dX9_in_7 rfl ?_
    refine q_lcmp dX9_in_9 ?_
    refine q_if_gt 17 dX9_in_10 (by decide) (fun cB => ?_) (fun cB => ?_)
    · rw [show inB v a b = false by
          unfold inB
          rw [Bool.and_eq_false_iff, decide_eq_false_iff_not, decide_eq_false_iff_not]
          first | exact Or.inr (Int64.not_le.mpr ((lg_cmp_gt _ _).mp cB)) | exact Or.inl (Int64.not_le.mpr ((lg_cmp_lt _ _).mp cA))]
      refine q_iconst (v := 0) dX9_in_17 rfl ?_
      exact q_zret dX9_in_18 rfl (rfl) (Nat.zero_le _) (Nat.zero_le _) (⟨rfl, rfl, rfl⟩)
    · rw [show inB v a b = true by
          unfold inB
          rw [Bool.and_eq_true, decide_eq_true_eq, decide_eq_true_eq]
          exact ⟨Int64.not_lt.mp (fun q => cA ((lg_cmp_lt _ _).mpr q)), Int64.not_lt.mp (fun q => cB ((lg_cmp_gt _ _).mpr q))⟩]
      refine q_iconst (v := 1) dX9_in_13 rfl ?_
      refine q_goto 18 dX9_in_14 (by decide) ?_
      exact q_zret dX9_in_18 rfl (rfl) (Nat.zero_le _) (Nat.zero_le _) (⟨rfl, rfl, rfl⟩)
theorem n_clear (hM : hat as h m (mo tc r z)) : Det Γ l mX9_clear rX9_clear [.ref m] as h (some (.int (z 2))) (hset h m (mo tc r (upd z 2 0))) := by
  refine Con.of (by decide +kernel) rfl rfl (Nat.le_of_ble_eq_true rfl) ?_
  refine q_aload_n dX9_clear_0 rfl rfl ?_
  refine q_get dX9_clear_1 fX9_clear_64 (hM) rfl ?_
  refine q_istore_n dX9_clear_4 rfl (by decide) ?_
  refine q_aload_n dX9_clear_5 rfl rfl ?_
  refine q_iconst (v := 0) dX9_clear_6 rfl ?_
  refine q_put dX9_clear_7 pX9_clear_64 (hM) rfl rfl (Nat.le_of_ble_eq_true rfl) ?_
  refine q_iload_n dX9_clear_10 rfl rfl ?_
  exact q_iret dX9_clear_11 rfl (Nat.zero_le _) (Nat.zero_le _) (⟨rfl, rfl, rfl⟩)
theorem n_isPerson {p : Int32} (hM : hat as h m (mo tc r z)) (hn : z 3 = nI n) (hn8 : n ≤ 8) : Det Γ l mX9_isPerson rX9_isPerson [.ref m, .int p] as h (some (.int (bI (isP n p)))) h := by
  refine Con.of (by decide +kernel) rfl rfl (Nat.le_of_ble_eq_true rfl) ?_
  refine q_iload_n dX9_isPerson_0 rfl rfl ?_
  refine q_i2l dX9_isPerson_1 ?_
  refine q_lconst (v := 0) dX9_isPerson_2 rfl ?_
  refine q_aload_n dX9_isPerson_3 rfl rfl ?_
  refine q_get dX9_isPerson_4 fX9_isPerson_111 (hM) rfl ?_
  refine q_iconst (v := 1) dX9_isPerson_7 rfl ?_
  refine q_isub dX9_isPerson_8 ?_
  refine q_i2l dX9_isPerson_9 ?_
  refine q_callSd dX9_isPerson_10 wX9_isPerson_60 (n_in) rfl rfl (Nat.le_of_ble_eq_true rfl) ⟨⟨Nat.le_of_ble_eq_true rfl, Nat.le_of_ble_eq_true rfl⟩, Nat.le_of_ble_eq_true rfl, Nat.le_of_ble_eq_true rfl⟩ ?_
  exact q_zret dX9_isPerson_13 rfl (by cases inB p.toInt64 0 (z 3 - 1).toInt64 <;> rfl) (Nat.zero_le _) (Nat.zero_le _) (⟨by rw [hn, inB_P hn8], rfl, rfl⟩)
theorem n_coinsOf {p : Nat} (hp : p < 8) (hM : hat as h m (mo tc r z)) (hf : hat as h (r 13) (aI Γ 240 f)) : Det Γ l mX9_coinsOf rX9_coinsOf [.ref m, .int (nI p)] as h (some (.int (pCo f p))) h := by
  have key : ∀ (d k : Nat) (v2 v3 : Int32) (ls : List (Nat × Value)), k + d = 10 → v2 = sr (fun w => f (p * 10 + w)) 0 k → v3 = nI k → lin ls [(0, .ref m), (1, .int (nI p)), (2, .int v2), (3, .int v3)] → V Γ l mX9_coinsOf rX9_coinsOf (Zm Γ rX9_coinsOf (qD (some (.int (pCo f p))) as h)) 0 0 4 ls [] as h := by
    intro d
    induction d with
    | zero =>
      intro k v2 v3 ls hk e2 e3 hl
      subst e2 e3
      refine V.at ?_ hl
      refine q_iload_n dX9_coinsOf_4 rfl rfl ?_
      refine q_bipush (v := 10) dX9_coinsOf_5 rfl ?_
      refine q_icmp_ge 30 dX9_coinsOf_7 (by decide) (fun _ => ?_) (fun z => absurd (ge_c 10 rfl (by omega) (by omega)) z)
      refine q_iload_n dX9_coinsOf_30 rfl rfl ?_
      exact q_iret dX9_coinsOf_31 rfl (Nat.zero_le _) (Nat.zero_le _) (⟨by rw [show k = 10 by omega]; rfl, rfl, rfl⟩)
    | succ d ih =>
      intro k v2 v3 ls hk e2 e3 hl
      subst e2 e3
      refine V.at ?_ hl
      refine q_iload_n dX9_coinsOf_4 rfl rfl ?_
      refine q_bipush (v := 10) dX9_coinsOf_5 rfl ?_
      refine q_icmp_ge 30 dX9_coinsOf_7 (by decide) (fun z => absurd z (lt_c 10 rfl (by omega) (by omega))) (fun _ => ?_)
      refine q_iload_n dX9_coinsOf_10 rfl rfl ?_
      refine q_aload_n dX9_coinsOf_11 rfl rfl ?_
      refine q_get dX9_coinsOf_12 fX9_coinsOf_26 (hM) rfl ?_
      refine q_bipush (v := 10) dX9_coinsOf_15 rfl ?_
      refine q_iload_n dX9_coinsOf_17 rfl rfl ?_
      refine q_imul dX9_coinsOf_18 ?_
      refine q_iload_n dX9_coinsOf_19 rfl rfl ?_
      refine q_iadd dX9_coinsOf_20 ?_
      refine q_iald dX9_coinsOf_21 (hf) (inM hp (show k < 10 by omega)) ?_
      refine q_iadd dX9_coinsOf_22 ?_
      refine q_istore_n dX9_coinsOf_23 rfl (by decide) ?_
      refine q_iinc1 dX9_coinsOf_24 rfl (by decide) ?_
      refine q_goto 4 dX9_coinsOf_27 (by decide) ?_
      exact ih (k + 1) _ _ _ (by omega) (by rw [clM hp (by omega)]; simp only [sr, Nat.zero_add]) (nI_s k) ⟨rfl, rfl, rfl, rfl, trivial⟩
  refine Con.of (by decide +kernel) rfl rfl (Nat.le_of_ble_eq_true rfl) ?_
  refine q_iconst (v := 0) dX9_coinsOf_0 rfl ?_
  refine q_istore_n dX9_coinsOf_1 rfl (by decide) ?_
  refine q_iconst (v := 0) dX9_coinsOf_2 rfl ?_
  refine q_istore_n dX9_coinsOf_3 rfl (by decide) ?_
  exact key 10 0 _ _ _ (by omega) rfl rfl ⟨rfl, rfl, rfl, rfl, trivial⟩
theorem n_person_bad {p q : Int32} (hb : isP n p = false ∨ q.toInt < 0 ∨ 4 < q.toInt) (hM : hat as h m (mo tc r z)) (hn : z 3 = nI n) (hn8 : n ≤ 8) : Det Γ l mX9_person rX9_person [.ref m, .int p, .int q] as h (some (.int (-1))) h := by
  refine Con.of (by decide +kernel) rfl rfl (Nat.le_of_ble_eq_true rfl) ?_
  refine q_aload_n dX9_person_0 rfl rfl ?_
  refine q_iload_n dX9_person_1 rfl rfl ?_
  refine q_callVd dX9_person_2 wX9_person_117 (n_isPerson hM hn hn8) (hM) ⟨_, _, rfl⟩ rfl rfl (Nat.le_of_ble_eq_true rfl) ⟨⟨Nat.le_of_ble_eq_true rfl, Nat.le_of_ble_eq_true rfl⟩, Nat.le_of_ble_eq_true rfl, Nat.le_of_ble_eq_true rfl⟩ ?_
  refine q_if_ne 10 dX9_person_5 (by decide) (fun cA => ?_) (fun cA => ?_)
  · refine q_iload_n dX9_person_10 rfl rfl ?_
    refine q_tableOut 78 dX9_person_11 (hb.resolve_left (fun e => by rw [e] at cA; exact cA rfl)) (by decide) ?_
    refine q_iconst (v := (-1)) dX9_person_78 rfl ?_
    exact q_iret dX9_person_79 rfl (Nat.zero_le _) (Nat.zero_le _) (⟨rfl, rfl, rfl⟩)
  · refine q_iconst (v := (-1)) dX9_person_8 rfl ?_
    exact q_iret dX9_person_9 rfl (Nat.zero_le _) (Nat.zero_le _) (⟨rfl, rfl, rfl⟩)
theorem n_person {p j : Nat} (hp : p < n) (hn8 : n ≤ 8) (hj : j < 5) (hM : hat as h m (mo tc r z)) (hn : z 3 = nI n) (hw : hat as h (r 4) (aI Γ 16 w)) (hx : hat as h (r 5) (aI Γ 16 x)) (hy : hat as h (r 6) (aI Γ 16 y)) (ho : hat as h (r 7) (aI Γ 16 o)) (hf : hat as h (r 13) (aI Γ 240 f)) : Det Γ l mX9_person rX9_person [.ref m, .int (nI p), .int (nI j)] as h (some (.int (prs w x y o f p j))) h := by
  have hp8 : p < 8 := by omega
  have e : bI (isP n (nI p)) = 1 := by rw [isP_nI hp hn8]; rfl
  refine Con.of (by decide +kernel) rfl rfl (Nat.le_of_ble_eq_true rfl) ?_
  rcases (show j = 0 ∨ j = 1 ∨ j = 2 ∨ j = 3 ∨ j = 4 by omega) with rfl | rfl | rfl | rfl | rfl
  · skip
    refine q_aload_n dX9_person_0 rfl rfl ?_
    refine q_iload_n dX9_person_1 rfl rfl ?_
    refine q_callVd dX9_person_2 wX9_person_117 (n_isPerson hM hn hn8) (hM) ⟨_, _, rfl⟩ rfl rfl (Nat.le_of_ble_eq_true rfl) ⟨⟨Nat.le_of_ble_eq_true rfl, Nat.le_of_ble_eq_true rfl⟩, Nat.le_of_ble_eq_true rfl, Nat.le_of_ble_eq_true rfl⟩ ?_
    refine q_if_ne 10 dX9_person_5 (by decide) (fun _ => ?_) (fun z => absurd z (by rw [e]; decide))
    refine q_iload_n dX9_person_10 rfl rfl ?_
    refine q_tableIn 44 dX9_person_11 (by decide) (by decide) rfl (by decide) ?_
    refine q_aload_n dX9_person_44 rfl rfl ?_
    refine q_get dX9_person_45 fX9_person_13 (hM) rfl ?_
    refine q_iload_n dX9_person_48 rfl rfl ?_
    refine q_iald dX9_person_49 (hw) (in_nI (show p < 16 by omega) (by omega)) ?_
    exact q_iret dX9_person_50 rfl (Nat.zero_le _) (Nat.zero_le _) (⟨by rw [nI_clamp (by omega)]; rfl, rfl, rfl⟩)
  · skip
    refine q_aload_n dX9_person_0 rfl rfl ?_
    refine q_iload_n dX9_person_1 rfl rfl ?_
    refine q_callVd dX9_person_2 wX9_person_117 (n_isPerson hM hn hn8) (hM) ⟨_, _, rfl⟩ rfl rfl (Nat.le_of_ble_eq_true rfl) ⟨⟨Nat.le_of_ble_eq_true rfl, Nat.le_of_ble_eq_true rfl⟩, Nat.le_of_ble_eq_true rfl, Nat.le_of_ble_eq_true rfl⟩ ?_
    refine q_if_ne 10 dX9_person_5 (by decide) (fun _ => ?_) (fun z => absurd z (by rw [e]; decide))
    refine q_iload_n dX9_person_10 rfl rfl ?_
    refine q_tableIn 51 dX9_person_11 (by decide) (by decide) rfl (by decide) ?_
    refine q_aload_n dX9_person_51 rfl rfl ?_
    refine q_get dX9_person_52 fX9_person_17 (hM) rfl ?_
    refine q_iload_n dX9_person_55 rfl rfl ?_
    refine q_iald dX9_person_56 (hx) (in_nI (show p < 16 by omega) (by omega)) ?_
    exact q_iret dX9_person_57 rfl (Nat.zero_le _) (Nat.zero_le _) (⟨by rw [nI_clamp (by omega)]; rfl, rfl, rfl⟩)
  · skip
    refine q_aload_n dX9_person_0 rfl rfl ?_
    refine q_iload_n dX9_person_1 rfl rfl ?_
    refine q_callVd dX9_person_2 wX9_person_117 (n_isPerson hM hn hn8) (hM) ⟨_, _, rfl⟩ rfl rfl (Nat.le_of_ble_eq_true rfl) ⟨⟨Nat.le_of_ble_eq_true rfl, Nat.le_of_ble_eq_true rfl⟩, Nat.le_of_ble_eq_true rfl, Nat.le_of_ble_eq_true rfl⟩ ?_
    refine q_if_ne 10 dX9_person_5 (by decide) (fun _ => ?_) (fun z => absurd z (by rw [e]; decide))
    refine q_iload_n dX9_person_10 rfl rfl ?_
    refine q_tableIn 58 dX9_person_11 (by decide) (by decide) rfl (by decide) ?_
    refine q_aload_n dX9_person_58 rfl rfl ?_
    refine q_get dX9_person_59 fX9_person_20 (hM) rfl ?_
    refine q_iload_n dX9_person_62 rfl rfl ?_
    refine q_iald dX9_person_63 (hy) (in_nI (show p < 16 by omega) (by omega)) ?_
    exact q_iret dX9_person_64 rfl (Nat.zero_le _) (Nat.zero_le _) (⟨by rw [nI_clamp (by omega)]; rfl, rfl, rfl⟩)
  · skip
    refine q_aload_n dX9_person_0 rfl rfl ?_
    refine q_iload_n dX9_person_1 rfl rfl ?_
    refine q_callVd dX9_person_2 wX9_person_117 (n_isPerson hM hn hn8) (hM) ⟨_, _, rfl⟩ rfl rfl (Nat.le_of_ble_eq_true rfl) ⟨⟨Nat.le_of_ble_eq_true rfl, Nat.le_of_ble_eq_true rfl⟩, Nat.le_of_ble_eq_true rfl, Nat.le_of_ble_eq_true rfl⟩ ?_
    refine q_if_ne 10 dX9_person_5 (by decide) (fun _ => ?_) (fun z => absurd z (by rw [e]; decide))
    refine q_iload_n dX9_person_10 rfl rfl ?_
    refine q_tableIn 65 dX9_person_11 (by decide) (by decide) rfl (by decide) ?_
    refine q_aload_n dX9_person_65 rfl rfl ?_
    refine q_get dX9_person_66 fX9_person_23 (hM) rfl ?_
    refine q_iload_n dX9_person_69 rfl rfl ?_
    refine q_iald dX9_person_70 (ho) (in_nI (show p < 16 by omega) (by omega)) ?_
    exact q_iret dX9_person_71 rfl (Nat.zero_le _) (Nat.zero_le _) (⟨by rw [nI_clamp (by omega)]; rfl, rfl, rfl⟩)
  · skip
    refine q_aload_n dX9_person_0 rfl rfl ?_
    refine q_iload_n dX9_person_1 rfl rfl ?_
    refine q_callVd dX9_person_2 wX9_person_117 (n_isPerson hM hn hn8) (hM) ⟨_, _, rfl⟩ rfl rfl (Nat.le_of_ble_eq_true rfl) ⟨⟨Nat.le_of_ble_eq_true rfl, Nat.le_of_ble_eq_true rfl⟩, Nat.le_of_ble_eq_true rfl, Nat.le_of_ble_eq_true rfl⟩ ?_
    refine q_if_ne 10 dX9_person_5 (by decide) (fun _ => ?_) (fun z => absurd z (by rw [e]; decide))
    refine q_iload_n dX9_person_10 rfl rfl ?_
    refine q_tableIn 72 dX9_person_11 (by decide) (by decide) rfl (by decide) ?_
    refine q_aload_n dX9_person_72 rfl rfl ?_
    refine q_iload_n dX9_person_73 rfl rfl ?_
    refine q_callVd dX9_person_74 wX9_person_121 (n_coinsOf hp8 hM hf) (hM) ⟨_, _, rfl⟩ rfl rfl (Nat.le_of_ble_eq_true rfl) ⟨⟨Nat.le_of_ble_eq_true rfl, Nat.le_of_ble_eq_true rfl⟩, Nat.le_of_ble_eq_true rfl, Nat.le_of_ble_eq_true rfl⟩ ?_
    exact q_iret dX9_person_77 rfl (Nat.zero_le _) (Nat.zero_le _) (⟨rfl, rfl, rfl⟩)
def isC (c : Int32) : Bool := decide (0 ≤ c) && decide (c ≤ 99)
theorem n_purse_bad {p q c : Int32} (hb : isP n p = false ∨ isW q = false ∨ isC c = false) (hM : hat as h m (mo tc r z)) (hn : z 3 = nI n) (hn8 : n ≤ 8) : Det Γ l mX9_purse rX9_purse [.ref m, .int p, .int q, .int c] as h (some (.int (-1))) h := by
  refine Con.of (by decide +kernel) rfl rfl (Nat.le_of_ble_eq_true rfl) ?_
  refine q_aload_n dX9_purse_0 rfl rfl ?_
  refine q_iload_n dX9_purse_1 rfl rfl ?_
  refine q_callVd dX9_purse_2 wX9_purse_117 (n_isPerson hM hn hn8) (hM) ⟨_, _, rfl⟩ rfl rfl (Nat.le_of_ble_eq_true rfl) ⟨⟨Nat.le_of_ble_eq_true rfl, Nat.le_of_ble_eq_true rfl⟩, Nat.le_of_ble_eq_true rfl, Nat.le_of_ble_eq_true rfl⟩ ?_
  refine q_if_eq 32 dX9_purse_5 (by decide) (fun cA => ?_) (fun cA => ?_)
  · refine q_iconst (v := (-1)) dX9_purse_32 rfl ?_
    exact q_iret dX9_purse_33 rfl (Nat.zero_le _) (Nat.zero_le _) (⟨rfl, rfl, rfl⟩)
  · refine q_iload_n dX9_purse_8 rfl rfl ?_
    refine q_i2l dX9_purse_9 ?_
    refine q_lconst (v := 0) dX9_purse_10 rfl ?_
    refine q_ldc2 (v := 9) dX9_purse_11 (by decide +kernel) ?_
    refine q_callSd dX9_purse_14 wX9_purse_60 (n_in) rfl rfl (Nat.le_of_ble_eq_true rfl) ⟨⟨Nat.le_of_ble_eq_true rfl, Nat.le_of_ble_eq_true rfl⟩, Nat.le_of_ble_eq_true rfl, Nat.le_of_ble_eq_true rfl⟩ ?_
    rw [inB_W]
    refine q_if_eq 32 dX9_purse_17 (by decide) (fun cB => ?_) (fun cB => ?_)
    · refine q_iconst (v := (-1)) dX9_purse_32 rfl ?_
      exact q_iret dX9_purse_33 rfl (Nat.zero_le _) (Nat.zero_le _) (⟨rfl, rfl, rfl⟩)
    · refine q_iload_n dX9_purse_20 rfl rfl ?_
      refine q_i2l dX9_purse_21 ?_
      refine q_lconst (v := 0) dX9_purse_22 rfl ?_
      refine q_ldc2 (v := 99) dX9_purse_23 (by decide +kernel) ?_
      refine q_callSd dX9_purse_26 wX9_purse_60 (n_in) rfl rfl (Nat.le_of_ble_eq_true rfl) ⟨⟨Nat.le_of_ble_eq_true rfl, Nat.le_of_ble_eq_true rfl⟩, Nat.le_of_ble_eq_true rfl, Nat.le_of_ble_eq_true rfl⟩ ?_
      rw [show inB c.toInt64 0 99 = isC c from inB_i (a := 0) (b := 99) (by decide) (by decide)]
      refine q_if_ne 34 dX9_purse_29 (by decide) (fun cC => ?_) (fun cC => ?_)
      · exact absurd hb (by rintro (e | e | e) <;> first | exact cA (by rw [e]; rfl) | exact cB (by rw [e]; rfl) | exact cC (by rw [e]; rfl))
      · refine q_iconst (v := (-1)) dX9_purse_32 rfl ?_
        exact q_iret dX9_purse_33 rfl (Nat.zero_le _) (Nat.zero_le _) (⟨rfl, rfl, rfl⟩)
theorem n_purse {p q : Nat} {c : Int32} (hp : p < n) (hn8 : n ≤ 8) (hq : q < 10) (hc : isC c = true) (hM : hat as h m (mo tc r z)) (hn : z 3 = nI n) (hf : hat as h (r 13) (aI Γ 240 f)) : Det Γ l mX9_purse rX9_purse [.ref m, .int (nI p), .int (nI q), .int c] as h (some (.int (f (p * 10 + q)))) (hset h (r 13) (aI Γ 240 (upd f (p * 10 + q) c))) := by
  have hp8 : p < 8 := by omega
  refine Con.of (by decide +kernel) rfl rfl (Nat.le_of_ble_eq_true rfl) ?_
  refine q_aload_n dX9_purse_0 rfl rfl ?_
  refine q_iload_n dX9_purse_1 rfl rfl ?_
  refine q_callVd dX9_purse_2 wX9_purse_117 (n_isPerson hM hn hn8) (hM) ⟨_, _, rfl⟩ rfl rfl (Nat.le_of_ble_eq_true rfl) ⟨⟨Nat.le_of_ble_eq_true rfl, Nat.le_of_ble_eq_true rfl⟩, Nat.le_of_ble_eq_true rfl, Nat.le_of_ble_eq_true rfl⟩ ?_
  refine q_if_eq 32 dX9_purse_5 (by decide) (fun z => absurd z (by rw [isP_nI hp hn8]; decide)) (fun _ => ?_)
  refine q_iload_n dX9_purse_8 rfl rfl ?_
  refine q_i2l dX9_purse_9 ?_
  refine q_lconst (v := 0) dX9_purse_10 rfl ?_
  refine q_ldc2 (v := 9) dX9_purse_11 (by decide +kernel) ?_
  refine q_callSd dX9_purse_14 wX9_purse_60 (n_in) rfl rfl (Nat.le_of_ble_eq_true rfl) ⟨⟨Nat.le_of_ble_eq_true rfl, Nat.le_of_ble_eq_true rfl⟩, Nat.le_of_ble_eq_true rfl, Nat.le_of_ble_eq_true rfl⟩ ?_
  rw [inB_W]
  refine q_if_eq 32 dX9_purse_17 (by decide) (fun z => absurd z (by rw [isW_nI hq]; decide)) (fun _ => ?_)
  refine q_iload_n dX9_purse_20 rfl rfl ?_
  refine q_i2l dX9_purse_21 ?_
  refine q_lconst (v := 0) dX9_purse_22 rfl ?_
  refine q_ldc2 (v := 99) dX9_purse_23 (by decide +kernel) ?_
  refine q_callSd dX9_purse_26 wX9_purse_60 (n_in) rfl rfl (Nat.le_of_ble_eq_true rfl) ⟨⟨Nat.le_of_ble_eq_true rfl, Nat.le_of_ble_eq_true rfl⟩, Nat.le_of_ble_eq_true rfl, Nat.le_of_ble_eq_true rfl⟩ ?_
  rw [show inB c.toInt64 0 99 = isC c from inB_i (a := 0) (b := 99) (by decide) (by decide)]
  refine q_if_ne 34 dX9_purse_29 (by decide) (fun _ => ?_) (fun z => absurd z (by rw [hc]; decide))
  refine q_aload_n dX9_purse_34 rfl rfl ?_
  refine q_get dX9_purse_35 fX9_purse_26 (hM) rfl ?_
  refine q_bipush (v := 10) dX9_purse_38 rfl ?_
  refine q_iload_n dX9_purse_40 rfl rfl ?_
  refine q_imul dX9_purse_41 ?_
  refine q_iload_n dX9_purse_42 rfl rfl ?_
  refine q_iadd dX9_purse_43 ?_
  refine q_iald dX9_purse_44 (hf) (inM hp8 hq) ?_
  refine q_istore dX9_purse_45 (by decide) ?_
  refine q_aload_n dX9_purse_47 rfl rfl ?_
  refine q_get dX9_purse_48 fX9_purse_26 (hM) rfl ?_
  refine q_bipush (v := 10) dX9_purse_51 rfl ?_
  refine q_iload_n dX9_purse_53 rfl rfl ?_
  refine q_imul dX9_purse_54 ?_
  refine q_iload_n dX9_purse_55 rfl rfl ?_
  refine q_iadd dX9_purse_56 ?_
  refine q_iload_n dX9_purse_57 rfl rfl ?_
  refine q_iast dX9_purse_58 (hf) (inM hp8 hq) ?_
  refine q_iload dX9_purse_59 rfl ?_
  exact q_iret dX9_purse_61 rfl (Nat.zero_le _) (Nat.zero_le _) (⟨by rw [clM hp8 hq], rfl, by rw [clM hp8 hq]⟩)
theorem n_ofAll {k : Nat} (hk : k < 10) (hM : hat as h m (mo tc r z)) (hn : z 3 = nI n) (hn8 : n ≤ 8) (hf : hat as h (r 13) (aI Γ 240 f)) (hz : zro n f) : Det Γ l mX9_ofAll rX9_ofAll [.ref m, .int (nI k)] as h (some (.int (pWt f k))) h := by
  have key : ∀ (d p : Nat) (v2 v3 : Int32) (ls : List (Nat × Value)), p + d = n → v2 = sr (fun p => f (p * 10 + k)) 0 p → v3 = nI p → lin ls [(0, .ref m), (1, .int (nI k)), (2, .int v2), (3, .int v3)] → V Γ l mX9_ofAll rX9_ofAll (Zm Γ rX9_ofAll (qD (some (.int (pWt f k))) as h)) 0 0 4 ls [] as h := by
    intro d
    induction d with
    | zero =>
      intro p v2 v3 ls hp e2 e3 hl
      subst e2 e3
      refine V.at ?_ hl
      refine q_iload_n dX9_ofAll_4 rfl rfl ?_
      refine q_aload_n dX9_ofAll_5 rfl rfl ?_
      refine q_get dX9_ofAll_6 fX9_ofAll_111 (hM) rfl ?_
      refine q_icmp_ge 32 dX9_ofAll_9 (by decide) (fun _ => ?_) (fun z => absurd (by rw [hn]; exact nI_le (by omega) (by omega)) z)
      refine q_iload_n dX9_ofAll_32 rfl rfl ?_
      exact q_iret dX9_ofAll_33 rfl (Nat.zero_le _) (Nat.zero_le _) (⟨by rw [show p = n by omega, sr_cut hz hn8 hk], rfl, rfl⟩)
    | succ d ih =>
      intro p v2 v3 ls hp e2 e3 hl
      subst e2 e3
      refine V.at ?_ hl
      refine q_iload_n dX9_ofAll_4 rfl rfl ?_
      refine q_aload_n dX9_ofAll_5 rfl rfl ?_
      refine q_get dX9_ofAll_6 fX9_ofAll_111 (hM) rfl ?_
      refine q_icmp_ge 32 dX9_ofAll_9 (by decide) (fun z => absurd z (by rw [hn]; exact nI_ge (by omega) (by omega))) (fun _ => ?_)
      refine q_iload_n dX9_ofAll_12 rfl rfl ?_
      refine q_aload_n dX9_ofAll_13 rfl rfl ?_
      refine q_get dX9_ofAll_14 fX9_ofAll_26 (by assumption) rfl ?_
      refine q_bipush (v := 10) dX9_ofAll_17 rfl ?_
      refine q_iload_n dX9_ofAll_19 rfl rfl ?_
      refine q_imul dX9_ofAll_20 ?_
      refine q_iload_n dX9_ofAll_21 rfl rfl ?_
      refine q_iadd dX9_ofAll_22 ?_
      refine q_iald dX9_ofAll_23 (hf) (inM (show p < 8 by omega) hk) ?_
      refine q_iadd dX9_ofAll_24 ?_
      refine q_istore_n dX9_ofAll_25 rfl (by decide) ?_
      refine q_iinc1 dX9_ofAll_26 rfl (by decide) ?_
      refine q_goto 4 dX9_ofAll_29 (by decide) ?_
      exact ih (p + 1) _ _ _ (by omega) (by rw [clM (by omega) hk]; simp only [sr, Nat.zero_add]) (nI_s p) ⟨rfl, rfl, rfl, rfl, trivial⟩
  refine Con.of (by decide +kernel) rfl rfl (Nat.le_of_ble_eq_true rfl) ?_
  refine q_iconst (v := 0) dX9_ofAll_0 rfl ?_
  refine q_istore_n dX9_ofAll_1 rfl (by decide) ?_
  refine q_iconst (v := 0) dX9_ofAll_2 rfl ?_
  refine q_istore_n dX9_ofAll_3 rfl (by decide) ?_
  exact key n 0 _ _ _ (by omega) rfl rfl ⟨rfl, rfl, rfl, rfl, trivial⟩
theorem n_allCoins (hM : hat as h m (mo tc r z)) (hn : z 3 = nI n) (hn8 : n ≤ 8) (hf : hat as h (r 13) (aI Γ 240 f)) (hz : zro n f) : Det Γ l mX9_allCoins rX9_allCoins [.ref m] as h (some (.int (pAll f))) h := by
  have key : ∀ (d k : Nat) (v1 v2 : Int32) (ls : List (Nat × Value)), k + d = 10 → v1 = sr (pWt f) 0 k → v2 = nI k → lin ls [(0, .ref m), (1, .int v1), (2, .int v2)] → V Γ l mX9_allCoins rX9_allCoins (Zm Γ rX9_allCoins (qD (some (.int (pAll f))) as h)) 0 0 4 ls [] as h := by
    intro d
    induction d with
    | zero =>
      intro k v1 v2 ls hk e1 e2 hl
      subst e1 e2
      refine V.at ?_ hl
      refine q_iload_n dX9_allCoins_4 rfl rfl ?_
      refine q_bipush (v := 10) dX9_allCoins_5 rfl ?_
      refine q_icmp_ge 24 dX9_allCoins_7 (by decide) (fun _ => ?_) (fun z => absurd (ge_c 10 rfl (by omega) (by omega)) z)
      refine q_iload_n dX9_allCoins_24 rfl rfl ?_
      exact q_iret dX9_allCoins_25 rfl (Nat.zero_le _) (Nat.zero_le _) (⟨by rw [show k = 10 by omega, pAll_sw], rfl, rfl⟩)
    | succ d ih =>
      intro k v1 v2 ls hk e1 e2 hl
      subst e1 e2
      refine V.at ?_ hl
      refine q_iload_n dX9_allCoins_4 rfl rfl ?_
      refine q_bipush (v := 10) dX9_allCoins_5 rfl ?_
      refine q_icmp_ge 24 dX9_allCoins_7 (by decide) (fun z => absurd z (lt_c 10 rfl (by omega) (by omega))) (fun _ => ?_)
      refine q_iload_n dX9_allCoins_10 rfl rfl ?_
      refine q_aload_n dX9_allCoins_11 rfl rfl ?_
      refine q_iload_n dX9_allCoins_12 rfl rfl ?_
      refine q_callVd dX9_allCoins_13 wX9_allCoins_131 (n_ofAll (show k < 10 by omega) hM hn hn8 hf hz) (hM) ⟨_, _, rfl⟩ rfl rfl (Nat.le_of_ble_eq_true rfl) ⟨⟨Nat.le_of_ble_eq_true rfl, Nat.le_of_ble_eq_true rfl⟩, Nat.le_of_ble_eq_true rfl, Nat.le_of_ble_eq_true rfl⟩ ?_
      refine q_iadd dX9_allCoins_16 ?_
      refine q_istore_n dX9_allCoins_17 rfl (by decide) ?_
      refine q_iinc1 dX9_allCoins_18 rfl (by decide) ?_
      refine q_goto 4 dX9_allCoins_21 (by decide) ?_
      exact ih (k + 1) _ _ _ (by omega) (by simp only [sr, Nat.zero_add]) (nI_s k) ⟨rfl, rfl, rfl, trivial⟩
  refine Con.of (by decide +kernel) rfl rfl (Nat.le_of_ble_eq_true rfl) ?_
  refine q_iconst (v := 0) dX9_allCoins_0 rfl ?_
  refine q_istore_n dX9_allCoins_1 rfl (by decide) ?_
  refine q_iconst (v := 0) dX9_allCoins_2 rfl ?_
  refine q_istore_n dX9_allCoins_3 rfl (by decide) ?_
  exact key 10 0 _ _ _ (by omega) rfl rfl ⟨rfl, rfl, rfl, trivial⟩
end

