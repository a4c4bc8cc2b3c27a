/-! LIGHTCOINS (X8): towns, purses, meetings -/
abbrev mX8_type : mT := (yX8_type, RX8, cX8_type, 5, (some .int), wsX8_type)
abbrev rX8_type : Room := { frames := 2, cells := 0, slots := 0, locals := 42 }
theorem dX8_type_0 : decode cX8_type 0 = .ok (.iload_n 3, 1) := by decide +kernel
theorem dX8_type_1 : decode cX8_type 1 = .ok (.iconst 1, 1) := by decide +kernel
theorem dX8_type_2 : decode cX8_type 2 = .ok (.if_icmp .lt 9, 3) := by decide +kernel
theorem dX8_type_5 : decode cX8_type 5 = .ok (.iload_n 3, 1) := by decide +kernel
theorem dX8_type_6 : decode cX8_type 6 = .ok (.bipush 8, 2) := by decide +kernel
theorem dX8_type_8 : decode cX8_type 8 = .ok (.if_icmp .le 5, 3) := by decide +kernel
theorem dX8_type_11 : decode cX8_type 11 = .ok (.iconst (-1), 1) := by decide +kernel
theorem dX8_type_12 : decode cX8_type 12 = .ok (.ireturn, 1) := by decide +kernel
theorem dX8_type_13 : decode cX8_type 13 = .ok (.aload_n 0, 1) := by decide +kernel
theorem dX8_type_14 : decode cX8_type 14 = .ok (.getfield 10, 3) := by decide +kernel
theorem dX8_type_17 : decode cX8_type 17 = .ok (.iload_n 3, 1) := by decide +kernel
theorem dX8_type_18 : decode cX8_type 18 = .ok (.invokevirtual 82, 3) := by decide +kernel
theorem dX8_type_21 : decode cX8_type 21 = .ok (.ifCond .ne 6, 3) := by decide +kernel
theorem dX8_type_24 : decode cX8_type 24 = .ok (.bipush (-3), 2) := by decide +kernel
theorem dX8_type_26 : decode cX8_type 26 = .ok (.ireturn, 1) := by decide +kernel
theorem dX8_type_27 : decode cX8_type 27 = .ok (.iload_n 3, 1) := by decide +kernel
theorem dX8_type_28 : decode cX8_type 28 = .ok (.iconst 1, 1) := by decide +kernel
theorem dX8_type_29 : decode cX8_type 29 = .ok (.isub, 1) := by decide +kernel
theorem dX8_type_30 : decode cX8_type 30 = .ok (.istore 4, 2) := by decide +kernel
theorem dX8_type_32 : decode cX8_type 32 = .ok (.iload 4, 2) := by decide +kernel
theorem dX8_type_34 : decode cX8_type 34 = .ok (.ifCond .lt 28, 3) := by decide +kernel
theorem dX8_type_37 : decode cX8_type 37 = .ok (.aload_n 0, 1) := by decide +kernel
theorem dX8_type_38 : decode cX8_type 38 = .ok (.getfield 10, 3) := by decide +kernel
theorem dX8_type_41 : decode cX8_type 41 = .ok (.lload_n 1, 1) := by decide +kernel
theorem dX8_type_42 : decode cX8_type 42 = .ok (.bipush 8, 2) := by decide +kernel
theorem dX8_type_44 : decode cX8_type 44 = .ok (.iload 4, 2) := by decide +kernel
theorem dX8_type_46 : decode cX8_type 46 = .ok (.imul, 1) := by decide +kernel
theorem dX8_type_47 : decode cX8_type 47 = .ok (.lushr, 1) := by decide +kernel
theorem dX8_type_48 : decode cX8_type 48 = .ok (.ldc2_w 86, 3) := by decide +kernel
theorem dX8_type_51 : decode cX8_type 51 = .ok (.land, 1) := by decide +kernel
theorem dX8_type_52 : decode cX8_type 52 = .ok (.l2i, 1) := by decide +kernel
theorem dX8_type_53 : decode cX8_type 53 = .ok (.invokevirtual 88, 3) := by decide +kernel
theorem dX8_type_56 : decode cX8_type 56 = .ok (.iinc 4 (-1), 3) := by decide +kernel
theorem dX8_type_59 : decode cX8_type 59 = .ok (.goto (-27), 3) := by decide +kernel
theorem dX8_type_62 : decode cX8_type 62 = .ok (.aload_n 0, 1) := by decide +kernel
theorem dX8_type_63 : decode cX8_type 63 = .ok (.getfield 10, 3) := by decide +kernel
theorem dX8_type_66 : decode cX8_type 66 = .ok (.getfield 92, 3) := by decide +kernel
theorem dX8_type_69 : decode cX8_type 69 = .ok (.ireturn, 1) := by decide +kernel
theorem iX8_type_8 : ∀ w ∈ wsX80, w ∈ wsX8_type := fun w h => List.mem_cons_of_mem _ (List.mem_append_left _ (List.mem_append_right _ h))
theorem fX8_type_10 : FL mX8_type 10 8 0 := ⟨_, _, _, rfl, by decide, iX8_type_8, by decide +kernel⟩
theorem iX8_type_5 : ∀ w ∈ wsX50, w ∈ wsX8_type := fun w h => List.mem_cons_of_mem _ (List.mem_append_right _ h)
theorem fX8_type_92 : FL mX8_type 92 5 1 := ⟨_, _, _, rfl, by decide, iX8_type_5, by decide +kernel⟩
set_option maxRecDepth 20000 in
theorem ggX8_type_X5_hasRoom : GoodIn wsX8_type wsX5_hasRoom := goodIn_r _ [8, 9, 29, 30, 31, 32, 33, 34] (by decide +kernel) (by decide +kernel)
set_option maxRecDepth 20000 in
theorem gX8_type_X5_hasRoom : GoodIn wsX8_type (wsV RX8 82 RX5 yX5_hasRoom wsX5_hasRoom) := goodIn_app (goodIn_of _ (by decide +kernel)) ggX8_type_X5_hasRoom
theorem wX8_type_82 : CWV mX8_type 82 mX5_hasRoom 1 := ⟨gX8_type_X5_hasRoom, ⟨_, rfl⟩, rfl, by decide +kernel, by decide +kernel, by decide +kernel⟩
set_option maxRecDepth 20000 in
theorem ggX8_type_X5_append : GoodIn wsX8_type wsX5_append := goodIn_r _ [13, 14, 9, 15, 5, 6, 7, 8, 29, 30, 31, 32, 33, 34] (by decide +kernel) (by decide +kernel)
set_option maxRecDepth 20000 in
theorem gX8_type_X5_append : GoodIn wsX8_type (wsV RX8 88 RX5 yX5_append wsX5_append) := goodIn_app (goodIn_of _ (by decide +kernel)) ggX8_type_X5_append
theorem wX8_type_88 : CWV mX8_type 88 mX5_append 1 := ⟨gX8_type_X5_append, ⟨_, rfl⟩, rfl, by decide +kernel, by decide +kernel, by decide +kernel⟩
abbrev mX8_clear : mT := (yX8_clear, RX8, cX8_clear, 2, (some .int), wsX8_clear)
abbrev rX8_clear : Room := { frames := 0, cells := 0, slots := 0, locals := 0 }
theorem dX8_clear_0 : decode cX8_clear 0 = .ok (.aload_n 0, 1) := by decide +kernel
theorem dX8_clear_1 : decode cX8_clear 1 = .ok (.getfield 10, 3) := by decide +kernel
theorem dX8_clear_4 : decode cX8_clear 4 = .ok (.getfield 92, 3) := by decide +kernel
theorem dX8_clear_7 : decode cX8_clear 7 = .ok (.istore_n 1, 1) := by decide +kernel
theorem dX8_clear_8 : decode cX8_clear 8 = .ok (.aload_n 0, 1) := by decide +kernel
theorem dX8_clear_9 : decode cX8_clear 9 = .ok (.getfield 10, 3) := by decide +kernel
theorem dX8_clear_12 : decode cX8_clear 12 = .ok (.iconst 0, 1) := by decide +kernel
theorem dX8_clear_13 : decode cX8_clear 13 = .ok (.putfield 92, 3) := by decide +kernel
theorem dX8_clear_16 : decode cX8_clear 16 = .ok (.iload_n 1, 1) := by decide +kernel
theorem dX8_clear_17 : decode cX8_clear 17 = .ok (.ireturn, 1) := by decide +kernel
theorem iX8_clear_8 : ∀ w ∈ wsX80, w ∈ wsX8_clear := fun w h => List.mem_cons_of_mem _ (List.mem_append_left _ (List.mem_append_right _ h))
theorem fX8_clear_10 : FL mX8_clear 10 8 0 := ⟨_, _, _, rfl, by decide, iX8_clear_8, by decide +kernel⟩
theorem iX8_clear_5 : ∀ w ∈ wsX50, w ∈ wsX8_clear := fun w h => List.mem_cons_of_mem _ (List.mem_append_right _ h)
theorem fX8_clear_92 : FL mX8_clear 92 5 1 := ⟨_, _, _, rfl, by decide, iX8_clear_5, by decide +kernel⟩
theorem pX8_clear_92 : FP mX8_clear 92 5 1 .int false := ⟨_, _, _, tyX5, rfl, by decide, iX8_clear_5, by decide +kernel, tyX5_ok, nmX5, rfl, rfl, fun z => absurd z (by decide)⟩
abbrev mX8_person : mT := (yX8_person, RX8, cX8_person, 3, (some .int), wsX8_person)
abbrev rX8_person : Room := { frames := 3, cells := 0, slots := 0, locals := 67 }
theorem dX8_person_0 : decode cX8_person 0 = .ok (.aload_n 0, 1) := by decide +kernel
theorem dX8_person_1 : decode cX8_person 1 = .ok (.iload_n 1, 1) := by decide +kernel
theorem dX8_person_2 : decode cX8_person 2 = .ok (.invokevirtual 112, 3) := by decide +kernel
theorem dX8_person_5 : decode cX8_person 5 = .ok (.ifCond .ne 5, 3) := by decide +kernel
theorem dX8_person_8 : decode cX8_person 8 = .ok (.iconst (-1), 1) := by decide +kernel
theorem dX8_person_9 : decode cX8_person 9 = .ok (.ireturn, 1) := by decide +kernel
theorem dX8_person_10 : decode cX8_person 10 = .ok (.iload_n 2, 1) := by decide +kernel
theorem dX8_person_11 : decode cX8_person 11 = .ok (.tableswitch 82 0 4 #[33, 43, 53, 63, 73], 33) := by decide +kernel
theorem dX8_person_44 : decode cX8_person 44 = .ok (.aload_n 0, 1) := by decide +kernel
theorem dX8_person_45 : decode cX8_person 45 = .ok (.getfield 64, 3) := by decide +kernel
theorem dX8_person_48 : decode cX8_person 48 = .ok (.getfield 115, 3) := by decide +kernel
theorem dX8_person_51 : decode cX8_person 51 = .ok (.iload_n 1, 1) := by decide +kernel
theorem dX8_person_52 : decode cX8_person 52 = .ok (.iaload, 1) := by decide +kernel
theorem dX8_person_53 : decode cX8_person 53 = .ok (.ireturn, 1) := by decide +kernel
theorem dX8_person_54 : decode cX8_person 54 = .ok (.aload_n 0, 1) := by decide +kernel
theorem dX8_person_55 : decode cX8_person 55 = .ok (.getfield 64, 3) := by decide +kernel
theorem dX8_person_58 : decode cX8_person 58 = .ok (.getfield 119, 3) := by decide +kernel
theorem dX8_person_61 : decode cX8_person 61 = .ok (.iload_n 1, 1) := by decide +kernel
theorem dX8_person_62 : decode cX8_person 62 = .ok (.iaload, 1) := by decide +kernel
theorem dX8_person_63 : decode cX8_person 63 = .ok (.ireturn, 1) := by decide +kernel
theorem dX8_person_64 : decode cX8_person 64 = .ok (.aload_n 0, 1) := by decide +kernel
theorem dX8_person_65 : decode cX8_person 65 = .ok (.getfield 64, 3) := by decide +kernel
theorem dX8_person_68 : decode cX8_person 68 = .ok (.getfield 122, 3) := by decide +kernel
theorem dX8_person_71 : decode cX8_person 71 = .ok (.iload_n 1, 1) := by decide +kernel
theorem dX8_person_72 : decode cX8_person 72 = .ok (.iaload, 1) := by decide +kernel
theorem dX8_person_73 : decode cX8_person 73 = .ok (.ireturn, 1) := by decide +kernel
theorem dX8_person_74 : decode cX8_person 74 = .ok (.aload_n 0, 1) := by decide +kernel
theorem dX8_person_75 : decode cX8_person 75 = .ok (.getfield 64, 3) := by decide +kernel
theorem dX8_person_78 : decode cX8_person 78 = .ok (.getfield 125, 3) := by decide +kernel
theorem dX8_person_81 : decode cX8_person 81 = .ok (.iload_n 1, 1) := by decide +kernel
theorem dX8_person_82 : decode cX8_person 82 = .ok (.iaload, 1) := by decide +kernel
theorem dX8_person_83 : decode cX8_person 83 = .ok (.ireturn, 1) := by decide +kernel
theorem dX8_person_84 : decode cX8_person 84 = .ok (.aload_n 0, 1) := by decide +kernel
theorem dX8_person_85 : decode cX8_person 85 = .ok (.getfield 19, 3) := by decide +kernel
theorem dX8_person_88 : decode cX8_person 88 = .ok (.iload_n 1, 1) := by decide +kernel
theorem dX8_person_89 : decode cX8_person 89 = .ok (.invokevirtual 128, 3) := by decide +kernel
theorem dX8_person_92 : decode cX8_person 92 = .ok (.ireturn, 1) := by decide +kernel
theorem dX8_person_93 : decode cX8_person 93 = .ok (.iconst (-1), 1) := by decide +kernel
theorem dX8_person_94 : decode cX8_person 94 = .ok (.ireturn, 1) := by decide +kernel
theorem iX8_person_8 : ∀ w ∈ wsX80, w ∈ wsX8_person := fun w h => List.mem_cons_of_mem _ (List.mem_append_left _ (List.mem_append_left _ (List.mem_append_right _ h)))
theorem fX8_person_19 : FL mX8_person 19 8 1 := ⟨_, _, _, rfl, by decide, iX8_person_8, by decide +kernel⟩
theorem fX8_person_64 : FL mX8_person 64 8 8 := ⟨_, _, _, rfl, by decide, iX8_person_8, by decide +kernel⟩
theorem iX8_person_6 : ∀ w ∈ wsX60, w ∈ wsX8_person := fun w h => List.mem_cons_of_mem _ (List.mem_append_left _ (List.mem_append_right _ h))
theorem fX8_person_115 : FL mX8_person 115 6 0 := ⟨_, _, _, rfl, by decide, iX8_person_6, by decide +kernel⟩
theorem fX8_person_119 : FL mX8_person 119 6 1 := ⟨_, _, _, rfl, by decide, iX8_person_6, by decide +kernel⟩
theorem fX8_person_122 : FL mX8_person 122 6 2 := ⟨_, _, _, rfl, by decide, iX8_person_6, by decide +kernel⟩
theorem fX8_person_125 : FL mX8_person 125 6 3 := ⟨_, _, _, rfl, by decide, iX8_person_6, by decide +kernel⟩
set_option maxRecDepth 20000 in
theorem ggX8_person_X8_isPerson : GoodIn wsX8_person wsX8_isPerson := goodIn_r _ [11, 1, 12, 27, 28, 29, 30, 31, 32, 33, 34, 35, 36, 37, 38, 39, 40, 41, 42, 43, 44] (by decide +kernel) (by decide +kernel)
set_option maxRecDepth 20000 in
theorem gX8_person_X8_isPerson : GoodIn wsX8_person (wsV RX8 112 RX8 yX8_isPerson wsX8_isPerson) := goodIn_app (goodIn_of _ (by decide +kernel)) ggX8_person_X8_isPerson
theorem wX8_person_112 : CWV mX8_person 112 mX8_isPerson 1 := ⟨gX8_person_X8_isPerson, ⟨_, rfl⟩, rfl, by decide +kernel, by decide +kernel, by decide +kernel⟩
set_option maxRecDepth 20000 in
theorem ggX8_person_X4_coinsOf : GoodIn wsX8_person wsX4_coinsOf := goodIn_r _ [17, 18, 19, 20, 16, 21, 22, 23, 24, 25, 26, 45] (by decide +kernel) (by decide +kernel)
set_option maxRecDepth 20000 in
theorem gX8_person_X4_coinsOf : GoodIn wsX8_person (wsV RX8 128 RX4 yX4_coinsOf wsX4_coinsOf) := goodIn_app (goodIn_of _ (by decide +kernel)) ggX8_person_X4_coinsOf
theorem wX8_person_128 : CWV mX8_person 128 mX4_coinsOf 1 := ⟨gX8_person_X4_coinsOf, ⟨_, rfl⟩, rfl, by decide +kernel, by decide +kernel, by decide +kernel⟩
abbrev mX8_purse : mT := (yX8_purse, RX8, cX8_purse, 5, (some .int), wsX8_purse)
abbrev rX8_purse : Room := { frames := 1, cells := 0, slots := 0, locals := 23 }
theorem dX8_purse_0 : decode cX8_purse 0 = .ok (.aload_n 0, 1) := by decide +kernel
theorem dX8_purse_1 : decode cX8_purse 1 = .ok (.iload_n 1, 1) := by decide +kernel
theorem dX8_purse_2 : decode cX8_purse 2 = .ok (.invokevirtual 112, 3) := by decide +kernel
theorem dX8_purse_5 : decode cX8_purse 5 = .ok (.ifCond .eq 20, 3) := by decide +kernel
theorem dX8_purse_8 : decode cX8_purse 8 = .ok (.iload_n 2, 1) := by decide +kernel
theorem dX8_purse_9 : decode cX8_purse 9 = .ok (.invokestatic 132, 3) := by decide +kernel
theorem dX8_purse_12 : decode cX8_purse 12 = .ok (.ifCond .eq 13, 3) := by decide +kernel
theorem dX8_purse_15 : decode cX8_purse 15 = .ok (.iload_n 3, 1) := by decide +kernel
theorem dX8_purse_16 : decode cX8_purse 16 = .ok (.ifCond .lt 9, 3) := by decide +kernel
theorem dX8_purse_19 : decode cX8_purse 19 = .ok (.iload_n 3, 1) := by decide +kernel
theorem dX8_purse_20 : decode cX8_purse 20 = .ok (.bipush 99, 2) := by decide +kernel
theorem dX8_purse_22 : decode cX8_purse 22 = .ok (.if_icmp .le 5, 3) := by decide +kernel
theorem dX8_purse_25 : decode cX8_purse 25 = .ok (.iconst (-1), 1) := by decide +kernel
theorem dX8_purse_26 : decode cX8_purse 26 = .ok (.ireturn, 1) := by decide +kernel
theorem dX8_purse_27 : decode cX8_purse 27 = .ok (.aload_n 0, 1) := by decide +kernel
theorem dX8_purse_28 : decode cX8_purse 28 = .ok (.getfield 19, 3) := by decide +kernel
theorem dX8_purse_31 : decode cX8_purse 31 = .ok (.iload_n 1, 1) := by decide +kernel
theorem dX8_purse_32 : decode cX8_purse 32 = .ok (.iload_n 2, 1) := by decide +kernel
theorem dX8_purse_33 : decode cX8_purse 33 = .ok (.invokevirtual 135, 3) := by decide +kernel
theorem dX8_purse_36 : decode cX8_purse 36 = .ok (.istore 4, 2) := by decide +kernel
theorem dX8_purse_38 : decode cX8_purse 38 = .ok (.aload_n 0, 1) := by decide +kernel
theorem dX8_purse_39 : decode cX8_purse 39 = .ok (.getfield 19, 3) := by decide +kernel
theorem dX8_purse_42 : decode cX8_purse 42 = .ok (.iload_n 1, 1) := by decide +kernel
theorem dX8_purse_43 : decode cX8_purse 43 = .ok (.iload_n 2, 1) := by decide +kernel
theorem dX8_purse_44 : decode cX8_purse 44 = .ok (.iload_n 3, 1) := by decide +kernel
theorem dX8_purse_45 : decode cX8_purse 45 = .ok (.invokevirtual 139, 3) := by decide +kernel
theorem dX8_purse_48 : decode cX8_purse 48 = .ok (.iload 4, 2) := by decide +kernel
theorem dX8_purse_50 : decode cX8_purse 50 = .ok (.ireturn, 1) := by decide +kernel
theorem iX8_purse_8 : ∀ w ∈ wsX80, w ∈ wsX8_purse := fun w h => List.mem_cons_of_mem _ (List.mem_append_left _ (List.mem_append_left _ (List.mem_append_right _ h)))
theorem fX8_purse_19 : FL mX8_purse 19 8 1 := ⟨_, _, _, rfl, by decide, iX8_purse_8, by decide +kernel⟩
set_option maxRecDepth 20000 in
theorem ggX8_purse_X8_isPerson : GoodIn wsX8_purse wsX8_isPerson := goodIn_r _ [6, 7, 8, 22, 23, 24, 25, 26, 27, 28, 29, 30, 31, 32, 33, 34, 35, 36, 37, 38, 39] (by decide +kernel) (by decide +kernel)
set_option maxRecDepth 20000 in
theorem gX8_purse_X8_isPerson : GoodIn wsX8_purse (wsV RX8 112 RX8 yX8_isPerson wsX8_isPerson) := goodIn_app (goodIn_of _ (by decide +kernel)) ggX8_purse_X8_isPerson
theorem wX8_purse_112 : CWV mX8_purse 112 mX8_isPerson 1 := ⟨gX8_purse_X8_isPerson, ⟨_, rfl⟩, rfl, by decide +kernel, by decide +kernel, by decide +kernel⟩
set_option maxRecDepth 20000 in
theorem ggX8_purse_X8_isWeight : GoodIn wsX8_purse wsX8_isWeight := goodIn_r _ [11] (by decide +kernel) (by decide +kernel)
set_option maxRecDepth 20000 in
theorem gX8_purse_X8_isWeight : GoodIn wsX8_purse (va_wsS RX8 132 yX8_isWeight wsX8_isWeight) := goodIn_app (goodIn_of _ (by decide +kernel)) ggX8_purse_X8_isWeight
theorem wX8_purse_132 : CWS mX8_purse 132 mX8_isWeight 1 := ⟨gX8_purse_X8_isWeight, ⟨_, rfl⟩, by decide +kernel, by decide +kernel, by decide +kernel⟩
set_option maxRecDepth 20000 in
theorem ggX8_purse_X4_held : GoodIn wsX8_purse wsX4_held := goodIn_r _ [16, 17, 40] (by decide +kernel) (by decide +kernel)
set_option maxRecDepth 20000 in
theorem gX8_purse_X4_held : GoodIn wsX8_purse (wsV RX8 135 RX4 yX4_held wsX4_held) := goodIn_app (goodIn_of _ (by decide +kernel)) ggX8_purse_X4_held
theorem wX8_purse_135 : CWV mX8_purse 135 mX4_held 2 := ⟨gX8_purse_X4_held, ⟨_, rfl⟩, rfl, by decide +kernel, by decide +kernel, by decide +kernel⟩
set_option maxRecDepth 20000 in
theorem ggX8_purse_X4_put : GoodIn wsX8_purse wsX4_put := goodIn_r _ [21, 17, 40] (by decide +kernel) (by decide +kernel)
set_option maxRecDepth 20000 in
theorem gX8_purse_X4_put : GoodIn wsX8_purse (wsV RX8 139 RX4 yX4_put wsX4_put) := goodIn_app (goodIn_of _ (by decide +kernel)) ggX8_purse_X4_put
theorem wX8_purse_139 : CWV mX8_purse 139 mX4_put 3 := ⟨gX8_purse_X4_put, ⟨_, rfl⟩, rfl, by decide +kernel, by decide +kernel, by decide +kernel⟩
abbrev mX8_coins : mT := (yX8_coins, RX8, cX8_coins, 3, (some .int), wsX8_coins)
abbrev rX8_coins : Room := { frames := 2, cells := 0, slots := 0, locals := 45 }
theorem dX8_coins_0 : decode cX8_coins 0 = .ok (.iload_n 2, 1) := by decide +kernel
theorem dX8_coins_1 : decode cX8_coins 1 = .ok (.invokestatic 132, 3) := by decide +kernel
theorem dX8_coins_4 : decode cX8_coins 4 = .ok (.ifCond .eq 16, 3) := by decide +kernel
theorem dX8_coins_7 : decode cX8_coins 7 = .ok (.iload_n 1, 1) := by decide +kernel
theorem dX8_coins_8 : decode cX8_coins 8 = .ok (.iconst (-1), 1) := by decide +kernel
theorem dX8_coins_9 : decode cX8_coins 9 = .ok (.if_icmp .eq 13, 3) := by decide +kernel
theorem dX8_coins_12 : decode cX8_coins 12 = .ok (.aload_n 0, 1) := by decide +kernel
theorem dX8_coins_13 : decode cX8_coins 13 = .ok (.iload_n 1, 1) := by decide +kernel
theorem dX8_coins_14 : decode cX8_coins 14 = .ok (.invokevirtual 112, 3) := by decide +kernel
theorem dX8_coins_17 : decode cX8_coins 17 = .ok (.ifCond .ne 5, 3) := by decide +kernel
theorem dX8_coins_20 : decode cX8_coins 20 = .ok (.iconst (-1), 1) := by decide +kernel
theorem dX8_coins_21 : decode cX8_coins 21 = .ok (.ireturn, 1) := by decide +kernel
theorem dX8_coins_22 : decode cX8_coins 22 = .ok (.iload_n 1, 1) := by decide +kernel
theorem dX8_coins_23 : decode cX8_coins 23 = .ok (.iconst (-1), 1) := by decide +kernel
theorem dX8_coins_24 : decode cX8_coins 24 = .ok (.if_icmp .ne 14, 3) := by decide +kernel
theorem dX8_coins_27 : decode cX8_coins 27 = .ok (.aload_n 0, 1) := by decide +kernel
theorem dX8_coins_28 : decode cX8_coins 28 = .ok (.getfield 19, 3) := by decide +kernel
theorem dX8_coins_31 : decode cX8_coins 31 = .ok (.iload_n 2, 1) := by decide +kernel
theorem dX8_coins_32 : decode cX8_coins 32 = .ok (.invokevirtual 143, 3) := by decide +kernel
theorem dX8_coins_35 : decode cX8_coins 35 = .ok (.goto 12, 3) := by decide +kernel
theorem dX8_coins_38 : decode cX8_coins 38 = .ok (.aload_n 0, 1) := by decide +kernel
theorem dX8_coins_39 : decode cX8_coins 39 = .ok (.getfield 19, 3) := by decide +kernel
theorem dX8_coins_42 : decode cX8_coins 42 = .ok (.iload_n 1, 1) := by decide +kernel
theorem dX8_coins_43 : decode cX8_coins 43 = .ok (.iload_n 2, 1) := by decide +kernel
theorem dX8_coins_44 : decode cX8_coins 44 = .ok (.invokevirtual 135, 3) := by decide +kernel
theorem dX8_coins_47 : decode cX8_coins 47 = .ok (.ireturn, 1) := by decide +kernel
theorem iX8_coins_8 : ∀ w ∈ wsX80, w ∈ wsX8_coins := fun w h => List.mem_cons_of_mem _ (List.mem_append_left _ (List.mem_append_left _ (List.mem_append_right _ h)))
theorem fX8_coins_19 : FL mX8_coins 19 8 1 := ⟨_, _, _, rfl, by decide, iX8_coins_8, by decide +kernel⟩
set_option maxRecDepth 20000 in
theorem ggX8_coins_X8_isPerson : GoodIn wsX8_coins wsX8_isPerson := goodIn_r _ [9, 10, 11, 23, 24, 25, 26, 27, 28, 29, 30, 31, 32, 33, 34, 35, 36, 37, 38, 39, 40] (by decide +kernel) (by decide +kernel)
set_option maxRecDepth 20000 in
theorem gX8_coins_X8_isPerson : GoodIn wsX8_coins (wsV RX8 112 RX8 yX8_isPerson wsX8_isPerson) := goodIn_app (goodIn_of _ (by decide +kernel)) ggX8_coins_X8_isPerson
theorem wX8_coins_112 : CWV mX8_coins 112 mX8_isPerson 1 := ⟨gX8_coins_X8_isPerson, ⟨_, rfl⟩, rfl, by decide +kernel, by decide +kernel, by decide +kernel⟩
set_option maxRecDepth 20000 in
theorem ggX8_coins_X8_isWeight : GoodIn wsX8_coins wsX8_isWeight := goodIn_r _ [5] (by decide +kernel) (by decide +kernel)
set_option maxRecDepth 20000 in
theorem gX8_coins_X8_isWeight : GoodIn wsX8_coins (va_wsS RX8 132 yX8_isWeight wsX8_isWeight) := goodIn_app (goodIn_of _ (by decide +kernel)) ggX8_coins_X8_isWeight
theorem wX8_coins_132 : CWS mX8_coins 132 mX8_isWeight 1 := ⟨gX8_coins_X8_isWeight, ⟨_, rfl⟩, by decide +kernel, by decide +kernel, by decide +kernel⟩
set_option maxRecDepth 20000 in
theorem ggX8_coins_X4_held : GoodIn wsX8_coins wsX4_held := goodIn_r _ [20, 21, 41] (by decide +kernel) (by decide +kernel)
set_option maxRecDepth 20000 in
theorem gX8_coins_X4_held : GoodIn wsX8_coins (wsV RX8 135 RX4 yX4_held wsX4_held) := goodIn_app (goodIn_of _ (by decide +kernel)) ggX8_coins_X4_held
theorem wX8_coins_135 : CWV mX8_coins 135 mX4_held 2 := ⟨gX8_coins_X4_held, ⟨_, rfl⟩, rfl, by decide +kernel, by decide +kernel, by decide +kernel⟩
set_option maxRecDepth 20000 in
theorem ggX8_coins_X4_ofWeight : GoodIn wsX8_coins wsX4_ofWeight := goodIn_r _ [16, 17, 18, 19, 15, 20, 21, 41] (by decide +kernel) (by decide +kernel)
set_option maxRecDepth 20000 in
theorem gX8_coins_X4_ofWeight : GoodIn wsX8_coins (wsV RX8 143 RX4 yX4_ofWeight wsX4_ofWeight) := goodIn_app (goodIn_of _ (by decide +kernel)) ggX8_coins_X4_ofWeight
theorem wX8_coins_143 : CWV mX8_coins 143 mX4_ofWeight 1 := ⟨gX8_coins_X4_ofWeight, ⟨_, rfl⟩, rfl, by decide +kernel, by decide +kernel, by decide +kernel⟩
abbrev mX8_tune : mT := (yX8_tune, RX8, cX8_tune, 3, (some .int), wsX8_tune)
abbrev rX8_tune : Room := { frames := 1, cells := 0, slots := 0, locals := 23 }
theorem dX8_tune_0 : decode cX8_tune 0 = .ok (.aload_n 0, 1) := by decide +kernel
theorem dX8_tune_1 : decode cX8_tune 1 = .ok (.getfield 29, 3) := by decide +kernel
theorem dX8_tune_4 : decode cX8_tune 4 = .ok (.iload_n 1, 1) := by decide +kernel
theorem dX8_tune_5 : decode cX8_tune 5 = .ok (.iload_n 2, 1) := by decide +kernel
theorem dX8_tune_6 : decode cX8_tune 6 = .ok (.invokevirtual 146, 3) := by decide +kernel
theorem dX8_tune_9 : decode cX8_tune 9 = .ok (.ireturn, 1) := by decide +kernel
theorem iX8_tune_8 : ∀ w ∈ wsX80, w ∈ wsX8_tune := fun w h => List.mem_cons_of_mem _ (List.mem_append_left _ (List.mem_append_right _ h))
theorem fX8_tune_29 : FL mX8_tune 29 8 3 := ⟨_, _, _, rfl, by decide, iX8_tune_8, by decide +kernel⟩
set_option maxRecDepth 20000 in
theorem ggX8_tune_X7_set : GoodIn wsX8_tune wsX7_set := goodIn_r _ [6, 7, 8, 9, 23] (by decide +kernel) (by decide +kernel)
set_option maxRecDepth 20000 in
theorem gX8_tune_X7_set : GoodIn wsX8_tune (wsV RX8 146 RX7 yX7_set wsX7_set) := goodIn_app (goodIn_of _ (by decide +kernel)) ggX8_tune_X7_set
theorem wX8_tune_146 : CWV mX8_tune 146 mX7_set 2 := ⟨gX8_tune_X7_set, ⟨_, rfl⟩, rfl, by decide +kernel, by decide +kernel, by decide +kernel⟩
abbrev mX8_lot : mT := (yX8_lot, RX8, cX8_lot, 3, (some .int), wsX8_lot)
abbrev rX8_lot : Room := { frames := 0, cells := 0, slots := 0, locals := 0 }
theorem dX8_lot_0 : decode cX8_lot 0 = .ok (.aload_n 0, 1) := by decide +kernel
theorem dX8_lot_1 : decode cX8_lot 1 = .ok (.getfield 71, 3) := by decide +kernel
theorem dX8_lot_4 : decode cX8_lot 4 = .ok (.istore_n 2, 1) := by decide +kernel
theorem dX8_lot_5 : decode cX8_lot 5 = .ok (.aload_n 0, 1) := by decide +kernel
theorem dX8_lot_6 : decode cX8_lot 6 = .ok (.iload_n 1, 1) := by decide +kernel
theorem dX8_lot_7 : decode cX8_lot 7 = .ok (.putfield 71, 3) := by decide +kernel
theorem dX8_lot_10 : decode cX8_lot 10 = .ok (.iload_n 2, 1) := by decide +kernel
theorem dX8_lot_11 : decode cX8_lot 11 = .ok (.ireturn, 1) := by decide +kernel
theorem iX8_lot_8 : ∀ w ∈ wsX80, w ∈ wsX8_lot := fun w h => List.mem_cons_of_mem _ (List.mem_append_right _ h)
theorem fX8_lot_71 : FL mX8_lot 71 8 10 := ⟨_, _, _, rfl, by decide, iX8_lot_8, by decide +kernel⟩
theorem pX8_lot_71 : FP mX8_lot 71 8 10 .int false := ⟨_, _, _, tyX8, rfl, by decide, iX8_lot_8, by decide +kernel, tyX8_ok, nmX8, rfl, rfl, fun z => absurd z (by decide)⟩
abbrev mX8_meet : mT := (yX8_meet, RX8, cX8_meet, 1, (some .int), wsX8_meet)
abbrev rX8_meet : Room := { frames := 3, cells := 0, slots := 0, locals := 71 }
theorem dX8_meet_0 : decode cX8_meet 0 = .ok (.aload_n 0, 1) := by decide +kernel
theorem dX8_meet_1 : decode cX8_meet 1 = .ok (.getfield 64, 3) := by decide +kernel
theorem dX8_meet_4 : decode cX8_meet 4 = .ok (.getfield 109, 3) := by decide +kernel
theorem dX8_meet_7 : decode cX8_meet 7 = .ok (.iconst 2, 1) := by decide +kernel
theorem dX8_meet_8 : decode cX8_meet 8 = .ok (.if_icmp .ge 6, 3) := by decide +kernel
theorem dX8_meet_11 : decode cX8_meet 11 = .ok (.bipush (-2), 2) := by decide +kernel
theorem dX8_meet_13 : decode cX8_meet 13 = .ok (.ireturn, 1) := by decide +kernel
theorem dX8_meet_14 : decode cX8_meet 14 = .ok (.aload_n 0, 1) := by decide +kernel
theorem dX8_meet_15 : decode cX8_meet 15 = .ok (.invokevirtual 149, 3) := by decide +kernel
theorem dX8_meet_18 : decode cX8_meet 18 = .ok (.aload_n 0, 1) := by decide +kernel
theorem dX8_meet_19 : decode cX8_meet 19 = .ok (.getfield 36, 3) := by decide +kernel
theorem dX8_meet_22 : decode cX8_meet 22 = .ok (.getfield 152, 3) := by decide +kernel
theorem dX8_meet_25 : decode cX8_meet 25 = .ok (.ireturn, 1) := by decide +kernel
theorem iX8_meet_8 : ∀ w ∈ wsX80, w ∈ wsX8_meet := fun w h => List.mem_cons_of_mem _ (List.mem_append_left _ (List.mem_append_left _ (List.mem_append_left _ (List.mem_append_left _ (List.mem_append_right _ h)))))
theorem fX8_meet_36 : FL mX8_meet 36 8 4 := ⟨_, _, _, rfl, by decide, iX8_meet_8, by decide +kernel⟩
theorem fX8_meet_64 : FL mX8_meet 64 8 8 := ⟨_, _, _, rfl, by decide, iX8_meet_8, by decide +kernel⟩
theorem iX8_meet_6 : ∀ w ∈ wsX60, w ∈ wsX8_meet := fun w h => List.mem_cons_of_mem _ (List.mem_append_left _ (List.mem_append_left _ (List.mem_append_left _ (List.mem_append_right _ h))))
theorem fX8_meet_109 : FL mX8_meet 109 6 4 := ⟨_, _, _, rfl, by decide, iX8_meet_6, by decide +kernel⟩
theorem iX8_meet_3 : ∀ w ∈ wsX30, w ∈ wsX8_meet := fun w h => List.mem_cons_of_mem _ (List.mem_append_left _ (List.mem_append_left _ (List.mem_append_right _ h)))
theorem fX8_meet_152 : FL mX8_meet 152 3 3 := ⟨_, _, _, rfl, by decide, iX8_meet_3, by decide +kernel⟩
set_option maxRecDepth 20000 in
theorem ggX8_meet_X8_holdMeeting : GoodIn wsX8_meet wsX8_holdMeeting := goodIn_r _ [9, 1, 2, 10, 3, 11, 12, 13, 8, 14, 15, 16, 17, 18, 19, 20, 21, 22, 23, 24, 25, 26, 27, 28, 29, 30, 31, 32, 33, 34, 35, 36, 37, 38, 39, 40, 41, 42, 43, 44, 45, 46, 47, 48, 49, 50, 51, 52, 53, 54, 55, 56, 57, 58, 59, 60, 61, 62, 63, 64, 65, 66, 67, 68, 69, 70, 71, 72, 73, 74, 75, 76, 77, 83, 84, 78, 79, 80, 81, 82] (by decide +kernel) (by decide +kernel)
set_option maxRecDepth 20000 in
theorem gX8_meet_X8_holdMeeting : GoodIn wsX8_meet (wsV RX8 149 RX8 yX8_holdMeeting wsX8_holdMeeting) := goodIn_app (goodIn_of _ (by decide +kernel)) ggX8_meet_X8_holdMeeting
theorem wX8_meet_149 : CWV mX8_meet 149 mX8_holdMeeting 0 := ⟨gX8_meet_X8_holdMeeting, ⟨_, rfl⟩, rfl, by decide +kernel, by decide +kernel, by decide +kernel⟩
abbrev mX8_run : mT := (yX8_run, RX8, cX8_run, 4, (some .int), wsX8_run)
abbrev rX8_run : Room := { frames := 3, cells := 0, slots := 0, locals := 71 }
theorem dX8_run_0 : decode cX8_run 0 = .ok (.iload_n 1, 1) := by decide +kernel
theorem dX8_run_1 : decode cX8_run 1 = .ok (.iconst 1, 1) := by decide +kernel
theorem dX8_run_2 : decode cX8_run 2 = .ok (.if_icmp .lt 10, 3) := by decide +kernel
theorem dX8_run_5 : decode cX8_run 5 = .ok (.iload_n 1, 1) := by decide +kernel
theorem dX8_run_6 : decode cX8_run 6 = .ok (.sipush 500, 3) := by decide +kernel
theorem dX8_run_9 : decode cX8_run 9 = .ok (.if_icmp .le 5, 3) := by decide +kernel
theorem dX8_run_12 : decode cX8_run 12 = .ok (.iconst (-1), 1) := by decide +kernel
theorem dX8_run_13 : decode cX8_run 13 = .ok (.ireturn, 1) := by decide +kernel
theorem dX8_run_14 : decode cX8_run 14 = .ok (.aload_n 0, 1) := by decide +kernel
theorem dX8_run_15 : decode cX8_run 15 = .ok (.getfield 64, 3) := by decide +kernel
theorem dX8_run_18 : decode cX8_run 18 = .ok (.getfield 109, 3) := by decide +kernel
theorem dX8_run_21 : decode cX8_run 21 = .ok (.iconst 2, 1) := by decide +kernel
theorem dX8_run_22 : decode cX8_run 22 = .ok (.if_icmp .ge 6, 3) := by decide +kernel
theorem dX8_run_25 : decode cX8_run 25 = .ok (.bipush (-2), 2) := by decide +kernel
theorem dX8_run_27 : decode cX8_run 27 = .ok (.ireturn, 1) := by decide +kernel
theorem dX8_run_28 : decode cX8_run 28 = .ok (.iconst 0, 1) := by decide +kernel
theorem dX8_run_29 : decode cX8_run 29 = .ok (.istore_n 2, 1) := by decide +kernel
theorem dX8_run_30 : decode cX8_run 30 = .ok (.iconst 0, 1) := by decide +kernel
theorem dX8_run_31 : decode cX8_run 31 = .ok (.istore_n 3, 1) := by decide +kernel
theorem dX8_run_32 : decode cX8_run 32 = .ok (.iload_n 3, 1) := by decide +kernel
theorem dX8_run_33 : decode cX8_run 33 = .ok (.iload_n 1, 1) := by decide +kernel
theorem dX8_run_34 : decode cX8_run 34 = .ok (.if_icmp .ge 28, 3) := by decide +kernel
theorem dX8_run_37 : decode cX8_run 37 = .ok (.aload_n 0, 1) := by decide +kernel
theorem dX8_run_38 : decode cX8_run 38 = .ok (.invokevirtual 149, 3) := by decide +kernel
theorem dX8_run_41 : decode cX8_run 41 = .ok (.aload_n 0, 1) := by decide +kernel
theorem dX8_run_42 : decode cX8_run 42 = .ok (.getfield 36, 3) := by decide +kernel
theorem dX8_run_45 : decode cX8_run 45 = .ok (.getfield 152, 3) := by decide +kernel
theorem dX8_run_48 : decode cX8_run 48 = .ok (.bipush (-9), 2) := by decide +kernel
theorem dX8_run_50 : decode cX8_run 50 = .ok (.if_icmp .eq 6, 3) := by decide +kernel
theorem dX8_run_53 : decode cX8_run 53 = .ok (.iinc 2 1, 3) := by decide +kernel
theorem dX8_run_56 : decode cX8_run 56 = .ok (.iinc 3 1, 3) := by decide +kernel
theorem dX8_run_59 : decode cX8_run 59 = .ok (.goto (-27), 3) := by decide +kernel
theorem dX8_run_62 : decode cX8_run 62 = .ok (.iload_n 2, 1) := by decide +kernel
theorem dX8_run_63 : decode cX8_run 63 = .ok (.ireturn, 1) := by decide +kernel
theorem iX8_run_8 : ∀ w ∈ wsX80, w ∈ wsX8_run := fun w h => List.mem_cons_of_mem _ (List.mem_append_left _ (List.mem_append_left _ (List.mem_append_left _ (List.mem_append_left _ (List.mem_append_right _ h)))))
theorem fX8_run_36 : FL mX8_run 36 8 4 := ⟨_, _, _, rfl, by decide, iX8_run_8, by decide +kernel⟩
theorem fX8_run_64 : FL mX8_run 64 8 8 := ⟨_, _, _, rfl, by decide, iX8_run_8, by decide +kernel⟩
theorem iX8_run_6 : ∀ w ∈ wsX60, w ∈ wsX8_run := fun w h => List.mem_cons_of_mem _ (List.mem_append_left _ (List.mem_append_left _ (List.mem_append_left _ (List.mem_append_right _ h))))
theorem fX8_run_109 : FL mX8_run 109 6 4 := ⟨_, _, _, rfl, by decide, iX8_run_6, by decide +kernel⟩
theorem iX8_run_3 : ∀ w ∈ wsX30, w ∈ wsX8_run := fun w h => List.mem_cons_of_mem _ (List.mem_append_left _ (List.mem_append_left _ (List.mem_append_right _ h)))
theorem fX8_run_152 : FL mX8_run 152 3 3 := ⟨_, _, _, rfl, by decide, iX8_run_3, by decide +kernel⟩
set_option maxRecDepth 20000 in
theorem ggX8_run_X8_holdMeeting : GoodIn wsX8_run wsX8_holdMeeting := goodIn_r _ [9, 1, 2, 10, 3, 11, 12, 13, 8, 14, 15, 16, 17, 18, 19, 20, 21, 22, 23, 24, 25, 26, 27, 28, 29, 30, 31, 32, 33, 34, 35, 36, 37, 38, 39, 40, 41, 42, 43, 44, 45, 46, 47, 48, 49, 50, 51, 52, 53, 54, 55, 56, 57, 58, 59, 60, 61, 62, 63, 64, 65, 66, 67, 68, 69, 70, 71, 72, 73, 74, 75, 76, 77, 83, 84, 78, 79, 80, 81, 82] (by decide +kernel) (by decide +kernel)
set_option maxRecDepth 20000 in
theorem gX8_run_X8_holdMeeting : GoodIn wsX8_run (wsV RX8 149 RX8 yX8_holdMeeting wsX8_holdMeeting) := goodIn_app (goodIn_of _ (by decide +kernel)) ggX8_run_X8_holdMeeting
theorem wX8_run_149 : CWV mX8_run 149 mX8_holdMeeting 0 := ⟨gX8_run_X8_holdMeeting, ⟨_, rfl⟩, rfl, by decide +kernel, by decide +kernel, by decide +kernel⟩
abbrev mX8_met : mT := (yX8_met, RX8, cX8_met, 2, (some .int), wsX8_met)
abbrev rX8_met : Room := { frames := 0, cells := 0, slots := 0, locals := 0 }
theorem dX8_met_0 : decode cX8_met 0 = .ok (.iload_n 1, 1) := by decide +kernel
theorem dX8_met_1 : decode cX8_met 1 = .ok (.tableswitch 63 0 3 #[31, 39, 47, 55], 31) := by decide +kernel
theorem dX8_met_32 : decode cX8_met 32 = .ok (.aload_n 0, 1) := by decide +kernel
theorem dX8_met_33 : decode cX8_met 33 = .ok (.getfield 36, 3) := by decide +kernel
theorem dX8_met_36 : decode cX8_met 36 = .ok (.getfield 155, 3) := by decide +kernel
theorem dX8_met_39 : decode cX8_met 39 = .ok (.ireturn, 1) := by decide +kernel
theorem dX8_met_40 : decode cX8_met 40 = .ok (.aload_n 0, 1) := by decide +kernel
theorem dX8_met_41 : decode cX8_met 41 = .ok (.getfield 36, 3) := by decide +kernel
theorem dX8_met_44 : decode cX8_met 44 = .ok (.getfield 158, 3) := by decide +kernel
theorem dX8_met_47 : decode cX8_met 47 = .ok (.ireturn, 1) := by decide +kernel
theorem dX8_met_48 : decode cX8_met 48 = .ok (.aload_n 0, 1) := by decide +kernel
theorem dX8_met_49 : decode cX8_met 49 = .ok (.getfield 36, 3) := by decide +kernel
theorem dX8_met_52 : decode cX8_met 52 = .ok (.getfield 161, 3) := by decide +kernel
theorem dX8_met_55 : decode cX8_met 55 = .ok (.ireturn, 1) := by decide +kernel
theorem dX8_met_56 : decode cX8_met 56 = .ok (.aload_n 0, 1) := by decide +kernel
theorem dX8_met_57 : decode cX8_met 57 = .ok (.getfield 36, 3) := by decide +kernel
theorem dX8_met_60 : decode cX8_met 60 = .ok (.getfield 152, 3) := by decide +kernel
theorem dX8_met_63 : decode cX8_met 63 = .ok (.ireturn, 1) := by decide +kernel
theorem dX8_met_64 : decode cX8_met 64 = .ok (.iconst (-1), 1) := by decide +kernel
theorem dX8_met_65 : decode cX8_met 65 = .ok (.ireturn, 1) := by decide +kernel
theorem iX8_met_8 : ∀ w ∈ wsX80, w ∈ wsX8_met := fun w h => List.mem_cons_of_mem _ (List.mem_append_left _ (List.mem_append_right _ h))
theorem fX8_met_36 : FL mX8_met 36 8 4 := ⟨_, _, _, rfl, by decide, iX8_met_8, by decide +kernel⟩
theorem iX8_met_3 : ∀ w ∈ wsX30, w ∈ wsX8_met := fun w h => List.mem_cons_of_mem _ (List.mem_append_right _ h)
theorem fX8_met_152 : FL mX8_met 152 3 3 := ⟨_, _, _, rfl, by decide, iX8_met_3, by decide +kernel⟩
theorem fX8_met_155 : FL mX8_met 155 3 0 := ⟨_, _, _, rfl, by decide, iX8_met_3, by decide +kernel⟩
theorem fX8_met_158 : FL mX8_met 158 3 1 := ⟨_, _, _, rfl, by decide, iX8_met_3, by decide +kernel⟩
theorem fX8_met_161 : FL mX8_met 161 3 2 := ⟨_, _, _, rfl, by decide, iX8_met_3, by decide +kernel⟩
def xB (v : Int64) (i : Nat) : Int32 := ((v.toUInt64 >>> ((8 * nI i).toInt64.toUInt64 &&& Int64.toUInt64 63)).toInt64 &&& 255).toInt32
/-- the bytes when c of n are typed -/
def tyX (bx : Nat → Int32) (len : Nat) (v : Int64) (n : Nat) : Nat → Nat → Int32
  | 0 => bx
  | c + 1 => upd (tyX bx len v n c) (len + c) (xB v (n - 1 - c))
theorem hset4 {h : aH} {a b : Nat} {A A' B B' : va_E} (hab : b ≠ a) : hset (hset (hset (hset h b A) a B) b A') a B' = hset (hset h b A') a B' := by
  funext j
  by_cases h1 : j = a
  · rw [h1, hset_eq, hset_eq]
  · rw [hset_ne h1, hset_ne h1]
    by_cases h2 : j = b
    · rw [h2, hset_eq, hset_eq]
    · rw [hset_ne h2, hset_ne h1, hset_ne h2, hset_ne h2]
def prs (w x y o f : Nat → Int32) (p : Nat) : Nat → Int32
  | 0 => w p
  | 1 => x p
  | 2 => y p
  | 3 => o p
  | _ => pCo f p
/-- meetings, and in how many something was paid -/
def runS (w x y : Nat → Int32) (n lim : Nat) (s : msT) : Nat → msT × Int32
  | 0 => (s, 0)
  | k + 1 => (mSt w x y n lim (runS w x y n lim s k).1, if (mSt w x y n lim (runS w x y n lim s k).1).2.2.2.2.2.1 = -9 then (runS w x y n lim s k).2 else (runS w x y n lim s k).2 + 1)
section
variable {Γ : gT} {l : Launch} {as : List Nat} {h : aH} {X T P S U M D L I tw dr : Nat} {lot yr : Int32} {tc : Int64} {aw ax ay ao n pr ur lim : Nat} {f u w x y o bx : Nat → Int32} {x0 x1 x2 x3 x4 : Int32} {b len a s k v : Nat}
theorem c_type_bad {vv : Int64} {m : Int32} (hb : m < 1 ∨ 8 < m) : Det Γ l mX8_type rX8_type [.ref X, .long vv, .int m] as h (some (.int (-1))) h := by
  refine Con.of (by decide +kernel) rfl rfl (Nat.le_of_ble_eq_true rfl) ?_
  refine q_iload_n dX8_type_0 rfl rfl ?_
  refine q_iconst (v := 1) dX8_type_1 rfl ?_
  refine q_icmp_lt 11 dX8_type_2 (by decide) (fun cA => ?_) (fun cA => ?_)
  · refine q_iconst (v := (-1)) dX8_type_11 rfl ?_
    exact q_iret dX8_type_12 rfl (Nat.zero_le _) (Nat.zero_le _) (⟨rfl, rfl, rfl⟩)
  · refine q_iload_n dX8_type_5 rfl rfl ?_
    refine q_bipush (v := 8) dX8_type_6 rfl ?_
    refine q_icmp_le 13 dX8_type_8 (by decide) (fun cB => ?_) (fun cB => ?_)
    · exact absurd (hb.resolve_left cA) (Int32.not_lt.mpr cB)
    · refine q_iconst (v := (-1)) dX8_type_11 rfl ?_
      exact q_iret dX8_type_12 rfl (Nat.zero_le _) (Nat.zero_le _) (⟨rfl, rfl, rfl⟩)
theorem c_type_full {vv : Int64} {m : Nat} (hm0 : 1 ≤ m) (hm : m ≤ 8) (hX : hat as h X (xo T P S U M D L I tw dr lot yr tc)) (hT : hat as h T (tq b len a s k v)) (hl : len ≤ 300) (hf : 300 < len + m) : Det Γ l mX8_type rX8_type [.ref X, .long vv, .int (nI m)] as h (some (.int (-3))) h := by
  refine Con.of (by decide +kernel) rfl rfl (Nat.le_of_ble_eq_true rfl) ?_
  refine q_iload_n dX8_type_0 rfl rfl ?_
  refine q_iconst (v := 1) dX8_type_1 rfl ?_
  refine q_icmp_lt 11 dX8_type_2 (by decide) (fun z => absurd z (nI_nlt (b := 1) (by omega) (by omega))) (fun _ => ?_)
  refine q_iload_n dX8_type_5 rfl rfl ?_
  refine q_bipush (v := 8) dX8_type_6 rfl ?_
  refine q_icmp_le 13 dX8_type_8 (by decide) (fun _ => ?_) (fun z => absurd (nI_le (b := 8) (by omega) (by omega)) z)
  refine q_aload_n dX8_type_13 rfl rfl ?_
  refine q_get dX8_type_14 fX8_type_10 (hX) rfl ?_
  refine q_iload_n dX8_type_17 rfl rfl ?_
  refine q_callVd dX8_type_18 wX8_type_82 (c_hasRoom hT hl hm) (hT) ⟨_, _, rfl⟩ rfl rfl (Nat.le_of_ble_eq_true rfl) ⟨⟨Nat.le_of_ble_eq_true rfl, Nat.le_of_ble_eq_true rfl⟩, Nat.le_of_ble_eq_true rfl, Nat.le_of_ble_eq_true rfl⟩ ?_
  refine q_if_ne 27 dX8_type_21 (by decide) (fun z => absurd (by rw [decide_eq_false (by omega)]; rfl) z) (fun _ => ?_)
  refine q_bipush (v := (-3)) dX8_type_24 rfl ?_
  exact q_iret dX8_type_26 rfl (Nat.zero_le _) (Nat.zero_le _) (⟨rfl, rfl, rfl⟩)
theorem c_type {vv : Int64} {m : Nat} (hm0 : 1 ≤ m) (hm : m ≤ 8) (hX : hat as h X (xo T P S U M D L I tw dr lot yr tc)) (hT : hat as h T (tq b len a s k v)) (hb : hat as h b (aI Γ 300 bx)) (hf : len + m ≤ 300) : Det Γ l mX8_type rX8_type [.ref X, .long vv, .int (nI m)] as h (some (.int (nI (len + m)))) (hset (hset h b (aI Γ 300 (tyX bx len vv m m))) T (tq b (len + m) a s k v)) := by
  have e1 := hat_oo hX hT (by decide)
  have e2 := hat_oa hX hb
  have e3 := hat_oa hT hb
  have key : ∀ (d c : Nat) (z : Int32) (ls : List (Nat × Value)) (h' : aH), c + d = m → z + 1 = nI (m - c) → h' = hset (hset h b (aI Γ 300 (tyX bx len vv m c))) T (tq b (len + c) a s k v) → lin ls [(0, .ref X), (1, .long vv), (4, .int z)] → V Γ l mX8_type rX8_type (Zm Γ rX8_type (qD (some (.int (nI (len + m)))) as (hset (hset h b (aI Γ 300 (tyX bx len vv m m))) T (tq b (len + m) a s k v)))) 0 0 32 ls [] as h' := by
    intro d
    induction d with
    | zero =>
      intro c z ls h' hc hz hh hl
      subst hh
      have e : z < 0 := (pred_lt (k := 0) hz (by omega) (by omega)).mpr (by omega)
      refine V.at ?_ hl
      refine q_iload dX8_type_32 rfl ?_
      refine q_if_lt 62 dX8_type_34 (by decide) (fun _ => ?_) (fun z => absurd (e) z)
      refine q_aload_n dX8_type_62 rfl rfl ?_
      refine q_get dX8_type_63 fX8_type_10 (hat_ne (hat_ne hX e2) e1) rfl ?_
      refine q_get dX8_type_66 fX8_type_92 (hat_set (hat_ne hT e3)) rfl ?_
      exact q_iret dX8_type_69 rfl (Nat.zero_le _) (Nat.zero_le _) (⟨by rw [show c = m by omega], rfl, by rw [show c = m by omega]⟩)
    | succ d ih =>
      intro c z ls h' hc hz hh hl
      subst hh
      have ez : z = nI (m - 1 - c) := pred_eq (by rw [hz]; congr 1; omega)
      subst ez
      refine V.at ?_ hl
      refine q_iload dX8_type_32 rfl ?_
      refine q_if_lt 62 dX8_type_34 (by decide) (fun z => absurd z (nI_pos (by omega))) (fun _ => ?_)
      refine q_aload_n dX8_type_37 rfl rfl ?_
      refine q_get dX8_type_38 fX8_type_10 (hat_ne (hat_ne hX e2) e1) rfl ?_
      refine q_lload_n dX8_type_41 rfl rfl ?_
      refine q_bipush (v := 8) dX8_type_42 rfl ?_
      refine q_iload dX8_type_44 rfl ?_
      refine q_imul dX8_type_46 ?_
      refine q_lushr dX8_type_47 ?_
      refine q_ldc2 (v := 255) dX8_type_48 (by decide +kernel) ?_
      refine q_land dX8_type_51 ?_
      refine q_l2i dX8_type_52 ?_
      refine q_callVd dX8_type_53 wX8_type_88 (c_append (hat_set (hat_ne hT e3)) (hat_ne (hat_set hb) e3.symm) (show len + c < 300 by omega)) (hat_set (hat_ne hT e3)) ⟨_, _, rfl⟩ rfl rfl (Nat.le_of_ble_eq_true rfl) ⟨⟨Nat.le_of_ble_eq_true rfl, Nat.le_of_ble_eq_true rfl⟩, Nat.le_of_ble_eq_true rfl, Nat.le_of_ble_eq_true rfl⟩ ?_
      refine q_iincM dX8_type_56 rfl (by decide) ?_
      refine q_goto 32 dX8_type_59 (by decide) ?_
      exact ih (c + 1) _ _ _ (by omega) (by rw [m1p1]; congr 1; omega) (by rw [hset4 e3.symm]; rfl) ⟨rfl, rfl, rfl, trivial⟩
  refine Con.of (by decide +kernel) rfl rfl (Nat.le_of_ble_eq_true rfl) ?_
  refine q_iload_n dX8_type_0 rfl rfl ?_
  refine q_iconst (v := 1) dX8_type_1 rfl ?_
  refine q_icmp_lt 11 dX8_type_2 (by decide) (fun z => absurd z (nI_nlt (b := 1) (by omega) (by omega))) (fun _ => ?_)
  refine q_iload_n dX8_type_5 rfl rfl ?_
  refine q_bipush (v := 8) dX8_type_6 rfl ?_
  refine q_icmp_le 13 dX8_type_8 (by decide) (fun _ => ?_) (fun z => absurd (nI_le (b := 8) (by omega) (by omega)) z)
  refine q_aload_n dX8_type_13 rfl rfl ?_
  refine q_get dX8_type_14 fX8_type_10 (hX) rfl ?_
  refine q_iload_n dX8_type_17 rfl rfl ?_
  refine q_callVd dX8_type_18 wX8_type_82 (c_hasRoom hT (by omega) hm) (hT) ⟨_, _, rfl⟩ rfl rfl (Nat.le_of_ble_eq_true rfl) ⟨⟨Nat.le_of_ble_eq_true rfl, Nat.le_of_ble_eq_true rfl⟩, Nat.le_of_ble_eq_true rfl, Nat.le_of_ble_eq_true rfl⟩ ?_
  refine q_if_ne 27 dX8_type_21 (by decide) (fun _ => ?_) (fun z => absurd z (by rw [decide_eq_true (by omega)]; decide))
  refine q_iload_n dX8_type_27 rfl rfl ?_
  refine q_iconst (v := 1) dX8_type_28 rfl ?_
  refine q_isub dX8_type_29 ?_
  refine q_istore dX8_type_30 (by decide) ?_
  exact key m 0 _ _ _ (by omega) (Int32.sub_add_cancel _ _) (by rw [show tyX bx len vv m 0 = bx from rfl, hset_same hb.2]; exact (hset_same hT.2).symm) ⟨rfl, rfl, rfl, trivial⟩
theorem c_clear (hX : hat as h X (xo T P S U M D L I tw dr lot yr tc)) (hT : hat as h T (tq b len a s k v)) : Det Γ l mX8_clear rX8_clear [.ref X] as h (some (.int (nI len))) (hset h T (tq b 0 a s k v)) := by
  refine Con.of (by decide +kernel) rfl rfl (Nat.le_of_ble_eq_true rfl) ?_
  refine q_aload_n dX8_clear_0 rfl rfl ?_
  refine q_get dX8_clear_1 fX8_clear_10 (hX) rfl ?_
  refine q_get dX8_clear_4 fX8_clear_92 (hT) rfl ?_
  refine q_istore_n dX8_clear_7 rfl (by decide) ?_
  refine q_aload_n dX8_clear_8 rfl rfl ?_
  refine q_get dX8_clear_9 fX8_clear_10 (hX) rfl ?_
  refine q_iconst (v := 0) dX8_clear_12 rfl ?_
  refine q_put dX8_clear_13 pX8_clear_92 (hT) rfl rfl (Nat.le_of_ble_eq_true rfl) ?_
  refine q_iload_n dX8_clear_16 rfl rfl ?_
  exact q_iret dX8_clear_17 rfl (Nat.zero_le _) (Nat.zero_le _) (⟨rfl, rfl, rfl⟩)
theorem c_person_bad {p q : Int32} (hb : isP n p = false ∨ q.toInt < 0 ∨ 4 < q.toInt) (hX : hat as h X (xo T P S U M D L I tw dr lot yr tc)) (ht : hat as h tw (twn aw ax ay ao n)) : Det Γ l mX8_person rX8_person [.ref X, .int p, .int q] as h (some (.int (-1))) h := by
  refine Con.of (by decide +kernel) rfl rfl (Nat.le_of_ble_eq_true rfl) ?_
  refine q_aload_n dX8_person_0 rfl rfl ?_
  refine q_iload_n dX8_person_1 rfl rfl ?_
  refine q_callVd dX8_person_2 wX8_person_112 (c_isPerson hX ht) (hX) ⟨_, _, rfl⟩ rfl rfl (Nat.le_of_ble_eq_true rfl) ⟨⟨Nat.le_of_ble_eq_true rfl, Nat.le_of_ble_eq_true rfl⟩, Nat.le_of_ble_eq_true rfl, Nat.le_of_ble_eq_true rfl⟩ ?_
  refine q_if_ne 10 dX8_person_5 (by decide) (fun cA => ?_) (fun cA => ?_)
  · refine q_iload_n dX8_person_10 rfl rfl ?_
    refine q_tableOut 93 dX8_person_11 (hb.resolve_left (fun z => by rw [z] at cA; exact cA rfl)) (by decide) ?_
    refine q_iconst (v := (-1)) dX8_person_93 rfl ?_
    exact q_iret dX8_person_94 rfl (Nat.zero_le _) (Nat.zero_le _) (⟨rfl, rfl, rfl⟩)
  · refine q_iconst (v := (-1)) dX8_person_8 rfl ?_
    exact q_iret dX8_person_9 rfl (Nat.zero_le _) (Nat.zero_le _) (⟨rfl, rfl, rfl⟩)
theorem isP_nI {p : Nat} (hp : p < n) (hn : n ≤ 8) : isP n (nI p) = true := by
  unfold isP
  rw [Bool.and_eq_true, decide_eq_true_eq, decide_eq_true_eq]
  exact ⟨nI_pos (by omega), nI_ge hp (by omega)⟩
theorem c_person {p j : Nat} (hp : p < n) (hn : n ≤ 8) (hj : j < 5) (hX : hat as h X (xo T P S U M D L I tw dr lot yr tc)) (ht : hat as h tw (twn aw ax ay ao n)) (hw : hat as h aw (aI Γ 8 w)) (hx : hat as h ax (aI Γ 8 x)) (hy : hat as h ay (aI Γ 8 y)) (ho : hat as h ao (aI Γ 8 o)) (hP : hat as h P (ob 4 [.ref pr])) (hpr : hat as h pr (aI Γ 80 f)) : Det Γ l mX8_person rX8_person [.ref X, .int (nI p), .int (nI j)] as h (some (.int (prs w x y o f p j))) h := by
  have hp8 : p < 8 := by omega
  refine Con.of (by decide +kernel) rfl rfl (Nat.le_of_ble_eq_true rfl) ?_
  have e : bI (isP n (nI p)) = 1 := by rw [isP_nI hp hn]; rfl
  rcases (show j = 0 ∨ j = 1 ∨ j = 2 ∨ j = 3 ∨ j = 4 by omega) with rfl | rfl | rfl | rfl | rfl
  · skip
    refine q_aload_n dX8_person_0 rfl rfl ?_
    refine q_iload_n dX8_person_1 rfl rfl ?_
    refine q_callVd dX8_person_2 wX8_person_112 (c_isPerson hX ht) (hX) ⟨_, _, rfl⟩ rfl rfl (Nat.le_of_ble_eq_true rfl) ⟨⟨Nat.le_of_ble_eq_true rfl, Nat.le_of_ble_eq_true rfl⟩, Nat.le_of_ble_eq_true rfl, Nat.le_of_ble_eq_true rfl⟩ ?_
    refine q_if_ne 10 dX8_person_5 (by decide) (fun _ => ?_) (fun z => absurd z (by rw [e]; decide))
    refine q_iload_n dX8_person_10 rfl rfl ?_
    refine q_tableIn 44 dX8_person_11 (by decide) (by decide) rfl (by decide) ?_
    refine q_aload_n dX8_person_44 rfl rfl ?_
    refine q_get dX8_person_45 fX8_person_64 (hX) rfl ?_
    refine q_get dX8_person_48 fX8_person_115 (ht) rfl ?_
    refine q_iload_n dX8_person_51 rfl rfl ?_
    refine q_iald dX8_person_52 (hw) (in_nI hp8 (by omega)) ?_
    exact q_iret dX8_person_53 rfl (Nat.zero_le _) (Nat.zero_le _) (⟨by rw [nI_clamp (by omega)]; rfl, rfl, rfl⟩)
  · skip
    refine q_aload_n dX8_person_0 rfl rfl ?_
    refine q_iload_n dX8_person_1 rfl rfl ?_
    refine q_callVd dX8_person_2 wX8_person_112 (c_isPerson hX ht) (hX) ⟨_, _, rfl⟩ rfl rfl (Nat.le_of_ble_eq_true rfl) ⟨⟨Nat.le_of_ble_eq_true rfl, Nat.le_of_ble_eq_true rfl⟩, Nat.le_of_ble_eq_true rfl, Nat.le_of_ble_eq_true rfl⟩ ?_
    refine q_if_ne 10 dX8_person_5 (by decide) (fun _ => ?_) (fun z => absurd z (by rw [e]; decide))
    refine q_iload_n dX8_person_10 rfl rfl ?_
    refine q_tableIn 54 dX8_person_11 (by decide) (by decide) rfl (by decide) ?_
    refine q_aload_n dX8_person_54 rfl rfl ?_
    refine q_get dX8_person_55 fX8_person_64 (hX) rfl ?_
    refine q_get dX8_person_58 fX8_person_119 (ht) rfl ?_
    refine q_iload_n dX8_person_61 rfl rfl ?_
    refine q_iald dX8_person_62 (hx) (in_nI hp8 (by omega)) ?_
    exact q_iret dX8_person_63 rfl (Nat.zero_le _) (Nat.zero_le _) (⟨by rw [nI_clamp (by omega)]; rfl, rfl, rfl⟩)
  · skip
    refine q_aload_n dX8_person_0 rfl rfl ?_
    refine q_iload_n dX8_person_1 rfl rfl ?_
    refine q_callVd dX8_person_2 wX8_person_112 (c_isPerson hX ht) (hX) ⟨_, _, rfl⟩ rfl rfl (Nat.le_of_ble_eq_true rfl) ⟨⟨Nat.le_of_ble_eq_true rfl, Nat.le_of_ble_eq_true rfl⟩, Nat.le_of_ble_eq_true rfl, Nat.le_of_ble_eq_true rfl⟩ ?_
    refine q_if_ne 10 dX8_person_5 (by decide) (fun _ => ?_) (fun z => absurd z (by rw [e]; decide))
    refine q_iload_n dX8_person_10 rfl rfl ?_
    refine q_tableIn 64 dX8_person_11 (by decide) (by decide) rfl (by decide) ?_
    refine q_aload_n dX8_person_64 rfl rfl ?_
    refine q_get dX8_person_65 fX8_person_64 (hX) rfl ?_
    refine q_get dX8_person_68 fX8_person_122 (ht) rfl ?_
    refine q_iload_n dX8_person_71 rfl rfl ?_
    refine q_iald dX8_person_72 (hy) (in_nI hp8 (by omega)) ?_
    exact q_iret dX8_person_73 rfl (Nat.zero_le _) (Nat.zero_le _) (⟨by rw [nI_clamp (by omega)]; rfl, rfl, rfl⟩)
  · skip
    refine q_aload_n dX8_person_0 rfl rfl ?_
    refine q_iload_n dX8_person_1 rfl rfl ?_
    refine q_callVd dX8_person_2 wX8_person_112 (c_isPerson hX ht) (hX) ⟨_, _, rfl⟩ rfl rfl (Nat.le_of_ble_eq_true rfl) ⟨⟨Nat.le_of_ble_eq_true rfl, Nat.le_of_ble_eq_true rfl⟩, Nat.le_of_ble_eq_true rfl, Nat.le_of_ble_eq_true rfl⟩ ?_
    refine q_if_ne 10 dX8_person_5 (by decide) (fun _ => ?_) (fun z => absurd z (by rw [e]; decide))
    refine q_iload_n dX8_person_10 rfl rfl ?_
    refine q_tableIn 74 dX8_person_11 (by decide) (by decide) rfl (by decide) ?_
    refine q_aload_n dX8_person_74 rfl rfl ?_
    refine q_get dX8_person_75 fX8_person_64 (hX) rfl ?_
    refine q_get dX8_person_78 fX8_person_125 (ht) rfl ?_
    refine q_iload_n dX8_person_81 rfl rfl ?_
    refine q_iald dX8_person_82 (ho) (in_nI hp8 (by omega)) ?_
    exact q_iret dX8_person_83 rfl (Nat.zero_le _) (Nat.zero_le _) (⟨by rw [nI_clamp (by omega)]; rfl, rfl, rfl⟩)
  · skip
    refine q_aload_n dX8_person_0 rfl rfl ?_
    refine q_iload_n dX8_person_1 rfl rfl ?_
    refine q_callVd dX8_person_2 wX8_person_112 (c_isPerson hX ht) (hX) ⟨_, _, rfl⟩ rfl rfl (Nat.le_of_ble_eq_true rfl) ⟨⟨Nat.le_of_ble_eq_true rfl, Nat.le_of_ble_eq_true rfl⟩, Nat.le_of_ble_eq_true rfl, Nat.le_of_ble_eq_true rfl⟩ ?_
    refine q_if_ne 10 dX8_person_5 (by decide) (fun _ => ?_) (fun z => absurd z (by rw [e]; decide))
    refine q_iload_n dX8_person_10 rfl rfl ?_
    refine q_tableIn 84 dX8_person_11 (by decide) (by decide) rfl (by decide) ?_
    refine q_aload_n dX8_person_84 rfl rfl ?_
    refine q_get dX8_person_85 fX8_person_19 (hX) rfl ?_
    refine q_iload_n dX8_person_88 rfl rfl ?_
    refine q_callVd dX8_person_89 wX8_person_128 (c_coinsOf hP hpr hp8) (hP) ⟨_, _, rfl⟩ rfl rfl (Nat.le_of_ble_eq_true rfl) ⟨⟨Nat.le_of_ble_eq_true rfl, Nat.le_of_ble_eq_true rfl⟩, Nat.le_of_ble_eq_true rfl, Nat.le_of_ble_eq_true rfl⟩ ?_
    exact q_iret dX8_person_92 rfl (Nat.zero_le _) (Nat.zero_le _) (⟨rfl, rfl, rfl⟩)
theorem c_purse_bad {p q c : Int32} (hb : isP n p = false ∨ isW q = false ∨ c < 0 ∨ 99 < c) (hX : hat as h X (xo T P S U M D L I tw dr lot yr tc)) (ht : hat as h tw (twn aw ax ay ao n)) : Det Γ l mX8_purse rX8_purse [.ref X, .int p, .int q, .int c] as h (some (.int (-1))) h := by
  refine Con.of (by decide +kernel) rfl rfl (Nat.le_of_ble_eq_true rfl) ?_
  refine q_aload_n dX8_purse_0 rfl rfl ?_
  refine q_iload_n dX8_purse_1 rfl rfl ?_
  refine q_callVd dX8_purse_2 wX8_purse_112 (c_isPerson hX ht) (hX) ⟨_, _, rfl⟩ rfl rfl (Nat.le_of_ble_eq_true rfl) ⟨⟨Nat.le_of_ble_eq_true rfl, Nat.le_of_ble_eq_true rfl⟩, Nat.le_of_ble_eq_true rfl, Nat.le_of_ble_eq_true rfl⟩ ?_
  refine q_if_eq 25 dX8_purse_5 (by decide) (fun cA => ?_) (fun cA => ?_)
  · refine q_iconst (v := (-1)) dX8_purse_25 rfl ?_
    exact q_iret dX8_purse_26 rfl (Nat.zero_le _) (Nat.zero_le _) (⟨rfl, rfl, rfl⟩)
  · refine q_iload_n dX8_purse_8 rfl rfl ?_
    refine q_callSd dX8_purse_9 wX8_purse_132 (c_isWeight) rfl rfl (Nat.le_of_ble_eq_true rfl) ⟨⟨Nat.le_of_ble_eq_true rfl, Nat.le_of_ble_eq_true rfl⟩, Nat.le_of_ble_eq_true rfl, Nat.le_of_ble_eq_true rfl⟩ ?_
    refine q_if_eq 25 dX8_purse_12 (by decide) (fun cB => ?_) (fun cB => ?_)
    · refine q_iconst (v := (-1)) dX8_purse_25 rfl ?_
      exact q_iret dX8_purse_26 rfl (Nat.zero_le _) (Nat.zero_le _) (⟨rfl, rfl, rfl⟩)
    · refine q_iload_n dX8_purse_15 rfl rfl ?_
      refine q_if_lt 25 dX8_purse_16 (by decide) (fun cC => ?_) (fun cC => ?_)
      · refine q_iconst (v := (-1)) dX8_purse_25 rfl ?_
        exact q_iret dX8_purse_26 rfl (Nat.zero_le _) (Nat.zero_le _) (⟨rfl, rfl, rfl⟩)
      · refine q_iload_n dX8_purse_19 rfl rfl ?_
        refine q_bipush (v := 99) dX8_purse_20 rfl ?_
        refine q_icmp_le 27 dX8_purse_22 (by decide) (fun cD => ?_) (fun cD => ?_)
        · exact absurd hb (by rintro (z | z | z | z) <;> first | exact cA (by rw [z]; rfl) | exact cB (by rw [z]; rfl) | exact cC z | exact absurd cD (Int32.not_le.mpr z))
        · refine q_iconst (v := (-1)) dX8_purse_25 rfl ?_
          exact q_iret dX8_purse_26 rfl (Nat.zero_le _) (Nat.zero_le _) (⟨rfl, rfl, rfl⟩)
theorem isW_nI {p : Nat} (hp : p < 10) : isW (nI p) = true := by
  unfold isW
  rw [Bool.and_eq_true, decide_eq_true_eq, decide_eq_true_eq]
  exact ⟨nI_pos (by omega), nI_ge (b := 10) hp (by omega)⟩
theorem c_purse {p q : Nat} {c : Int32} (hp : p < n) (hn : n ≤ 8) (hq : q < 10) (hc0 : ¬ c < 0) (hc : c ≤ 99) (hX : hat as h X (xo T P S U M D L I tw dr lot yr tc)) (ht : hat as h tw (twn aw ax ay ao n)) (hP : hat as h P (ob 4 [.ref pr])) (hpr : hat as h pr (aI Γ 80 f)) : Det Γ l mX8_purse rX8_purse [.ref X, .int (nI p), .int (nI q), .int c] as h (some (.int (f (p * 10 + q)))) (hset h pr (aI Γ 80 (upd f (p * 10 + q) c))) := by
  have hp8 : p < 8 := by omega
  refine Con.of (by decide +kernel) rfl rfl (Nat.le_of_ble_eq_true rfl) ?_
  refine q_aload_n dX8_purse_0 rfl rfl ?_
  refine q_iload_n dX8_purse_1 rfl rfl ?_
  refine q_callVd dX8_purse_2 wX8_purse_112 (c_isPerson hX ht) (hX) ⟨_, _, rfl⟩ rfl rfl (Nat.le_of_ble_eq_true rfl) ⟨⟨Nat.le_of_ble_eq_true rfl, Nat.le_of_ble_eq_true rfl⟩, Nat.le_of_ble_eq_true rfl, Nat.le_of_ble_eq_true rfl⟩ ?_
  refine q_if_eq 25 dX8_purse_5 (by decide) (fun z => absurd z (by rw [isP_nI hp hn]; decide)) (fun _ => ?_)
  refine q_iload_n dX8_purse_8 rfl rfl ?_
  refine q_callSd dX8_purse_9 wX8_purse_132 (c_isWeight) rfl rfl (Nat.le_of_ble_eq_true rfl) ⟨⟨Nat.le_of_ble_eq_true rfl, Nat.le_of_ble_eq_true rfl⟩, Nat.le_of_ble_eq_true rfl, Nat.le_of_ble_eq_true rfl⟩ ?_
  refine q_if_eq 25 dX8_purse_12 (by decide) (fun z => absurd z (by rw [isW_nI hq]; decide)) (fun _ => ?_)
  refine q_iload_n dX8_purse_15 rfl rfl ?_
  refine q_if_lt 25 dX8_purse_16 (by decide) (fun z => absurd z (hc0)) (fun _ => ?_)
  refine q_iload_n dX8_purse_19 rfl rfl ?_
  refine q_bipush (v := 99) dX8_purse_20 rfl ?_
  refine q_icmp_le 27 dX8_purse_22 (by decide) (fun _ => ?_) (fun z => absurd (hc) z)
  refine q_aload_n dX8_purse_27 rfl rfl ?_
  refine q_get dX8_purse_28 fX8_purse_19 (hX) rfl ?_
  refine q_iload_n dX8_purse_31 rfl rfl ?_
  refine q_iload_n dX8_purse_32 rfl rfl ?_
  refine q_callVd dX8_purse_33 wX8_purse_135 (c_held hP hpr hp8 hq) (hP) ⟨_, _, rfl⟩ rfl rfl (Nat.le_of_ble_eq_true rfl) ⟨⟨Nat.le_of_ble_eq_true rfl, Nat.le_of_ble_eq_true rfl⟩, Nat.le_of_ble_eq_true rfl, Nat.le_of_ble_eq_true rfl⟩ ?_
  refine q_istore dX8_purse_36 (by decide) ?_
  refine q_aload_n dX8_purse_38 rfl rfl ?_
  refine q_get dX8_purse_39 fX8_purse_19 (hX) rfl ?_
  refine q_iload_n dX8_purse_42 rfl rfl ?_
  refine q_iload_n dX8_purse_43 rfl rfl ?_
  refine q_iload_n dX8_purse_44 rfl rfl ?_
  refine q_callVd dX8_purse_45 wX8_purse_139 (c_put hP hpr hp8 hq _) (hP) ⟨_, _, rfl⟩ rfl rfl (Nat.le_of_ble_eq_true rfl) ⟨⟨Nat.le_of_ble_eq_true rfl, Nat.le_of_ble_eq_true rfl⟩, Nat.le_of_ble_eq_true rfl, Nat.le_of_ble_eq_true rfl⟩ ?_
  refine q_iload dX8_purse_48 rfl ?_
  exact q_iret dX8_purse_50 rfl (Nat.zero_le _) (Nat.zero_le _) (⟨rfl, rfl, rfl⟩)
theorem c_coins_bad {p q : Int32} (hb : isW q = false ∨ (¬ p = -1 ∧ isP n p = false)) (hX : hat as h X (xo T P S U M D L I tw dr lot yr tc)) (ht : hat as h tw (twn aw ax ay ao n)) : Det Γ l mX8_coins rX8_coins [.ref X, .int p, .int q] as h (some (.int (-1))) h := by
  refine Con.of (by decide +kernel) rfl rfl (Nat.le_of_ble_eq_true rfl) ?_
  refine q_iload_n dX8_coins_0 rfl rfl ?_
  refine q_callSd dX8_coins_1 wX8_coins_132 (c_isWeight) rfl rfl (Nat.le_of_ble_eq_true rfl) ⟨⟨Nat.le_of_ble_eq_true rfl, Nat.le_of_ble_eq_true rfl⟩, Nat.le_of_ble_eq_true rfl, Nat.le_of_ble_eq_true rfl⟩ ?_
  refine q_if_eq 20 dX8_coins_4 (by decide) (fun cA => ?_) (fun cA => ?_)
  · refine q_iconst (v := (-1)) dX8_coins_20 rfl ?_
    exact q_iret dX8_coins_21 rfl (Nat.zero_le _) (Nat.zero_le _) (⟨rfl, rfl, rfl⟩)
  · refine q_iload_n dX8_coins_7 rfl rfl ?_
    refine q_iconst (v := (-1)) dX8_coins_8 rfl ?_
    refine q_icmp_eq 22 dX8_coins_9 (by decide) (fun cB => ?_) (fun cB => ?_)
    · exact absurd hb (by rintro (z | z) <;> first | exact cA (by rw [z]; rfl) | exact z.1 cB | exact cC (by rw [z.2]; rfl))
    · refine q_aload_n dX8_coins_12 rfl rfl ?_
      refine q_iload_n dX8_coins_13 rfl rfl ?_
      refine q_callVd dX8_coins_14 wX8_coins_112 (c_isPerson hX ht) (hX) ⟨_, _, rfl⟩ rfl rfl (Nat.le_of_ble_eq_true rfl) ⟨⟨Nat.le_of_ble_eq_true rfl, Nat.le_of_ble_eq_true rfl⟩, Nat.le_of_ble_eq_true rfl, Nat.le_of_ble_eq_true rfl⟩ ?_
      refine q_if_ne 22 dX8_coins_17 (by decide) (fun cC => ?_) (fun cC => ?_)
      · exact absurd hb (by rintro (z | z) <;> first | exact cA (by rw [z]; rfl) | exact z.1 cB | exact cC (by rw [z.2]; rfl))
      · refine q_iconst (v := (-1)) dX8_coins_20 rfl ?_
        exact q_iret dX8_coins_21 rfl (Nat.zero_le _) (Nat.zero_le _) (⟨rfl, rfl, rfl⟩)
theorem c_coins_all {q : Nat} (hq : q < 10) (hX : hat as h X (xo T P S U M D L I tw dr lot yr tc)) (hP : hat as h P (ob 4 [.ref pr])) (hpr : hat as h pr (aI Γ 80 f)) : Det Γ l mX8_coins rX8_coins [.ref X, .int (-1), .int (nI q)] as h (some (.int (pWt f q))) h := by
  refine Con.of (by decide +kernel) rfl rfl (Nat.le_of_ble_eq_true rfl) ?_
  refine q_iload_n dX8_coins_0 rfl rfl ?_
  refine q_callSd dX8_coins_1 wX8_coins_132 (c_isWeight) rfl rfl (Nat.le_of_ble_eq_true rfl) ⟨⟨Nat.le_of_ble_eq_true rfl, Nat.le_of_ble_eq_true rfl⟩, Nat.le_of_ble_eq_true rfl, Nat.le_of_ble_eq_true rfl⟩ ?_
  refine q_if_eq 20 dX8_coins_4 (by decide) (fun z => absurd z (by rw [isW_nI hq]; decide)) (fun _ => ?_)
  refine q_iload_n dX8_coins_7 rfl rfl ?_
  refine q_iconst (v := (-1)) dX8_coins_8 rfl ?_
  refine q_icmp_eq 22 dX8_coins_9 (by decide) (fun _ => ?_) (fun z => absurd (rfl) z)
  refine q_iload_n dX8_coins_22 rfl rfl ?_
  refine q_iconst (v := (-1)) dX8_coins_23 rfl ?_
  refine q_icmp_ne 38 dX8_coins_24 (by decide) (fun z => absurd (rfl) z) (fun _ => ?_)
  refine q_aload_n dX8_coins_27 rfl rfl ?_
  refine q_get dX8_coins_28 fX8_coins_19 (hX) rfl ?_
  refine q_iload_n dX8_coins_31 rfl rfl ?_
  refine q_callVd dX8_coins_32 wX8_coins_143 (c_ofWeight hP hpr hq) (hP) ⟨_, _, rfl⟩ rfl rfl (Nat.le_of_ble_eq_true rfl) ⟨⟨Nat.le_of_ble_eq_true rfl, Nat.le_of_ble_eq_true rfl⟩, Nat.le_of_ble_eq_true rfl, Nat.le_of_ble_eq_true rfl⟩ ?_
  refine q_goto 47 dX8_coins_35 (by decide) ?_
  exact q_iret dX8_coins_47 rfl (Nat.zero_le _) (Nat.zero_le _) (⟨rfl, rfl, rfl⟩)
theorem c_coins {p q : Nat} (hp : p < n) (hn : n ≤ 8) (hq : q < 10) (hX : hat as h X (xo T P S U M D L I tw dr lot yr tc)) (ht : hat as h tw (twn aw ax ay ao n)) (hP : hat as h P (ob 4 [.ref pr])) (hpr : hat as h pr (aI Γ 80 f)) : Det Γ l mX8_coins rX8_coins [.ref X, .int (nI p), .int (nI q)] as h (some (.int (f (p * 10 + q)))) h := by
  have hp8 : p < 8 := by omega
  have hm1 : ¬ nI p = -1 := fun z => nI_pos (n := p) (by omega) (by rw [z]; decide)
  refine Con.of (by decide +kernel) rfl rfl (Nat.le_of_ble_eq_true rfl) ?_
  refine q_iload_n dX8_coins_0 rfl rfl ?_
  refine q_callSd dX8_coins_1 wX8_coins_132 (c_isWeight) rfl rfl (Nat.le_of_ble_eq_true rfl) ⟨⟨Nat.le_of_ble_eq_true rfl, Nat.le_of_ble_eq_true rfl⟩, Nat.le_of_ble_eq_true rfl, Nat.le_of_ble_eq_true rfl⟩ ?_
  refine q_if_eq 20 dX8_coins_4 (by decide) (fun z => absurd z (by rw [isW_nI hq]; decide)) (fun _ => ?_)
  refine q_iload_n dX8_coins_7 rfl rfl ?_
  refine q_iconst (v := (-1)) dX8_coins_8 rfl ?_
  refine q_icmp_eq 22 dX8_coins_9 (by decide) (fun z => absurd z (hm1)) (fun _ => ?_)
  refine q_aload_n dX8_coins_12 rfl rfl ?_
  refine q_iload_n dX8_coins_13 rfl rfl ?_
  refine q_callVd dX8_coins_14 wX8_coins_112 (c_isPerson hX ht) (hX) ⟨_, _, rfl⟩ rfl rfl (Nat.le_of_ble_eq_true rfl) ⟨⟨Nat.le_of_ble_eq_true rfl, Nat.le_of_ble_eq_true rfl⟩, Nat.le_of_ble_eq_true rfl, Nat.le_of_ble_eq_true rfl⟩ ?_
  refine q_if_ne 22 dX8_coins_17 (by decide) (fun _ => ?_) (fun z => absurd z (by rw [isP_nI hp hn]; decide))
  refine q_iload_n dX8_coins_22 rfl rfl ?_
  refine q_iconst (v := (-1)) dX8_coins_23 rfl ?_
  refine q_icmp_ne 38 dX8_coins_24 (by decide) (fun _ => ?_) (fun z => absurd z (hm1))
  refine q_aload_n dX8_coins_38 rfl rfl ?_
  refine q_get dX8_coins_39 fX8_coins_19 (hX) rfl ?_
  refine q_iload_n dX8_coins_42 rfl rfl ?_
  refine q_iload_n dX8_coins_43 rfl rfl ?_
  refine q_callVd dX8_coins_44 wX8_coins_135 (c_held hP hpr hp8 hq) (hP) ⟨_, _, rfl⟩ rfl rfl (Nat.le_of_ble_eq_true rfl) ⟨⟨Nat.le_of_ble_eq_true rfl, Nat.le_of_ble_eq_true rfl⟩, Nat.le_of_ble_eq_true rfl, Nat.le_of_ble_eq_true rfl⟩ ?_
  exact q_iret dX8_coins_47 rfl (Nat.zero_le _) (Nat.zero_le _) (⟨rfl, rfl, rfl⟩)
theorem c_tune_bad {p q : Int32} (hb : p < 0 ∨ 6 ≤ p) (hX : hat as h X (xo T P S U M D L I tw dr lot yr tc)) (hU : hat as h U (ob 7 [.ref ur])) (hur : hat as h ur (aI Γ 6 u)) : Det Γ l mX8_tune rX8_tune [.ref X, .int p, .int q] as h (some (.int (-1))) h := by
  refine Con.of (by decide +kernel) rfl rfl (Nat.le_of_ble_eq_true rfl) ?_
  refine q_aload_n dX8_tune_0 rfl rfl ?_
  refine q_get dX8_tune_1 fX8_tune_29 (hX) rfl ?_
  refine q_iload_n dX8_tune_4 rfl rfl ?_
  refine q_iload_n dX8_tune_5 rfl rfl ?_
  refine q_callVd dX8_tune_6 wX8_tune_146 (c_tset_bad hU hur hb) (hU) ⟨_, _, rfl⟩ rfl rfl (Nat.le_of_ble_eq_true rfl) ⟨⟨Nat.le_of_ble_eq_true rfl, Nat.le_of_ble_eq_true rfl⟩, Nat.le_of_ble_eq_true rfl, Nat.le_of_ble_eq_true rfl⟩ ?_
  exact q_iret dX8_tune_9 rfl (Nat.zero_le _) (Nat.zero_le _) (⟨rfl, rfl, rfl⟩)
theorem c_tune {j : Nat} {q : Int32} (hj : j < 6) (hX : hat as h X (xo T P S U M D L I tw dr lot yr tc)) (hU : hat as h U (ob 7 [.ref ur])) (hur : hat as h ur (aI Γ 6 u)) : Det Γ l mX8_tune rX8_tune [.ref X, .int (nI j), .int q] as h (some (.int (if tuL j ≤ q ∧ q ≤ tuM j then u j else -1))) (if tuL j ≤ q ∧ q ≤ tuM j then hset h ur (aI Γ 6 (upd u j q)) else h) := by
  refine Con.of (by decide +kernel) rfl rfl (Nat.le_of_ble_eq_true rfl) ?_
  refine q_aload_n dX8_tune_0 rfl rfl ?_
  refine q_get dX8_tune_1 fX8_tune_29 (hX) rfl ?_
  refine q_iload_n dX8_tune_4 rfl rfl ?_
  refine q_iload_n dX8_tune_5 rfl rfl ?_
  refine q_callVd dX8_tune_6 wX8_tune_146 (c_tset hU hur hj) (hU) ⟨_, _, rfl⟩ rfl rfl (Nat.le_of_ble_eq_true rfl) ⟨⟨Nat.le_of_ble_eq_true rfl, Nat.le_of_ble_eq_true rfl⟩, Nat.le_of_ble_eq_true rfl, Nat.le_of_ble_eq_true rfl⟩ ?_
  exact q_iret dX8_tune_9 rfl (Nat.zero_le _) (Nat.zero_le _) (⟨rfl, rfl, rfl⟩)
theorem c_lot {q : Int32} (hX : hat as h X (xo T P S U M D L I tw dr lot yr tc)) : Det Γ l mX8_lot rX8_lot [.ref X, .int q] as h (some (.int lot)) (hset h X (xo T P S U M D L I tw dr q yr tc)) := by
  refine Con.of (by decide +kernel) rfl rfl (Nat.le_of_ble_eq_true rfl) ?_
  refine q_aload_n dX8_lot_0 rfl rfl ?_
  refine q_get dX8_lot_1 fX8_lot_71 (hX) rfl ?_
  refine q_istore_n dX8_lot_4 rfl (by decide) ?_
  refine q_aload_n dX8_lot_5 rfl rfl ?_
  refine q_iload_n dX8_lot_6 rfl rfl ?_
  refine q_put dX8_lot_7 pX8_lot_71 (hX) rfl rfl (Nat.le_of_ble_eq_true rfl) ?_
  refine q_iload_n dX8_lot_10 rfl rfl ?_
  exact q_iret dX8_lot_11 rfl (Nat.zero_le _) (Nat.zero_le _) (⟨rfl, rfl, rfl⟩)
theorem c_meet_few (hn : n < 2) (hX : hat as h X (xo T P S U M D L I tw dr lot yr tc)) (ht : hat as h tw (twn aw ax ay ao n)) : Det Γ l mX8_meet rX8_meet [.ref X] as h (some (.int (-2))) h := by
  refine Con.of (by decide +kernel) rfl rfl (Nat.le_of_ble_eq_true rfl) ?_
  refine q_aload_n dX8_meet_0 rfl rfl ?_
  refine q_get dX8_meet_1 fX8_meet_64 (hX) rfl ?_
  refine q_get dX8_meet_4 fX8_meet_109 (ht) rfl ?_
  refine q_iconst (v := 2) dX8_meet_7 rfl ?_
  refine q_icmp_ge 14 dX8_meet_8 (by decide) (fun z => absurd z (nI_ge (b := 2) hn (by omega))) (fun _ => ?_)
  refine q_bipush (v := (-2)) dX8_meet_11 rfl ?_
  exact q_iret dX8_meet_13 rfl (Nat.zero_le _) (Nat.zero_le _) (⟨rfl, rfl, rfl⟩)
theorem mH_M {s : msT} (hM : M ∈ as) : hat as (mH Γ X T P S U M D L I tw dr pr yr tc h s) M (ob 3 [.int s.2.2.1, .int s.2.2.2.1, .int s.2.2.2.2.1, .int s.2.2.2.2.2.1, .int s.2.2.2.2.2.2]) := ⟨hM, hset_eq⟩
theorem mH_X {s : msT} (hX : X ∈ as) (h1 : X ≠ M) (h2 : X ≠ pr) : hat as (mH Γ X T P S U M D L I tw dr pr yr tc h s) X (xo T P S U M D L I tw dr s.1 yr tc) := ⟨hX, by unfold mH; rw [hset_ne h1, hset_ne h2, hset_eq]⟩
theorem mH_p {s : msT} (hX : pr ∈ as) (h1 : pr ≠ M) : hat as (mH Γ X T P S U M D L I tw dr pr yr tc h s) pr (aI Γ 80 s.2.1) := ⟨hX, by unfold mH; rw [hset_ne h1, hset_eq]⟩
theorem mH_o {s : msT} {j : Nat} {e : va_E} (hj : hat as h j e) (h1 : j ≠ X) (h2 : j ≠ pr) (h3 : j ≠ M) : hat as (mH Γ X T P S U M D L I tw dr pr yr tc h s) j e := ⟨hj.1, by unfold mH; rw [hset_ne h3, hset_ne h2, hset_ne h1]; exact hj.2⟩
theorem mH_mH {s s' : msT} (h1 : X ≠ M) (h2 : X ≠ pr) (h3 : pr ≠ M) : mH Γ X T P S U M D L I tw dr pr yr tc (mH Γ X T P S U M D L I tw dr pr yr tc h s) s' = mH Γ X T P S U M D L I tw dr pr yr tc h s' := by
  unfold mH
  funext j
  by_cases a1 : j = M
  · rw [a1, hset_eq, hset_eq]
  · rw [hset_ne a1, hset_ne a1]
    by_cases a2 : j = pr
    · rw [a2, hset_eq, hset_eq]
    · rw [hset_ne a2, hset_ne a2]
      by_cases a3 : j = X
      · rw [a3, hset_eq, hset_eq]
      · rw [hset_ne a3, hset_ne a1, hset_ne a2, hset_ne a3, hset_ne a3]
theorem c_meet (hn : 2 ≤ n) (hn8 : n ≤ 8) (hlim : lim ≤ 9) (hX : hat as h X (xo T P S U M D L I tw dr lot yr tc)) (hP : hat as h P (ob 4 [.ref pr])) (hpr : hat as h pr (aI Γ 80 f)) (hU : hat as h U (ob 7 [.ref ur])) (hur : hat as h ur (aI Γ 6 u)) (hu : u 0 = nI lim) (hM : hat as h M (ob 3 [.int x0, .int x1, .int x2, .int x3, .int x4])) (ht : hat as h tw (twn aw ax ay ao n)) (hw : hat as h aw (aI Γ 8 w)) (hx : hat as h ax (aI Γ 8 x)) (hy : hat as h ay (aI Γ 8 y)) : Det Γ l mX8_meet rX8_meet [.ref X] as h (some (.int (mSt w x y n lim (lot, f, x0, x1, x2, x3, x4)).2.2.2.2.2.1)) (mH Γ X T P S U M D L I tw dr pr yr tc h (mSt w x y n lim (lot, f, x0, x1, x2, x3, x4))) := by
  have e1 := hat_oo hX hM (by decide)
  have e2 := hat_oa hX hpr
  refine Con.of (by decide +kernel) rfl rfl (Nat.le_of_ble_eq_true rfl) ?_
  refine q_aload_n dX8_meet_0 rfl rfl ?_
  refine q_get dX8_meet_1 fX8_meet_64 (hX) rfl ?_
  refine q_get dX8_meet_4 fX8_meet_109 (ht) rfl ?_
  refine q_iconst (v := 2) dX8_meet_7 rfl ?_
  refine q_icmp_ge 14 dX8_meet_8 (by decide) (fun _ => ?_) (fun z => absurd (nI_le (a := 2) hn (by omega)) z)
  refine q_aload_n dX8_meet_14 rfl rfl ?_
  refine q_callVd dX8_meet_15 wX8_meet_149 (c_holdMeeting hn hn8 hlim hX hP hpr hU hur hu hM ht hw hx hy) (hX) ⟨_, _, rfl⟩ rfl rfl (Nat.le_of_ble_eq_true rfl) ⟨⟨Nat.le_of_ble_eq_true rfl, Nat.le_of_ble_eq_true rfl⟩, Nat.le_of_ble_eq_true rfl, Nat.le_of_ble_eq_true rfl⟩ ?_
  refine q_aload_n dX8_meet_18 rfl rfl ?_
  refine q_get dX8_meet_19 fX8_meet_36 (mH_X hX.1 e1 e2) rfl ?_
  refine q_get dX8_meet_22 fX8_meet_152 (mH_M hM.1) rfl ?_
  exact q_iret dX8_meet_25 rfl (Nat.zero_le _) (Nat.zero_le _) (⟨rfl, rfl, rfl⟩)
theorem c_run_bad {m : Int32} (hb : m < 1 ∨ 500 < m) : Det Γ l mX8_run rX8_run [.ref X, .int m] as h (some (.int (-1))) h := by
  refine Con.of (by decide +kernel) rfl rfl (Nat.le_of_ble_eq_true rfl) ?_
  refine q_iload_n dX8_run_0 rfl rfl ?_
  refine q_iconst (v := 1) dX8_run_1 rfl ?_
  refine q_icmp_lt 12 dX8_run_2 (by decide) (fun cA => ?_) (fun cA => ?_)
  · refine q_iconst (v := (-1)) dX8_run_12 rfl ?_
    exact q_iret dX8_run_13 rfl (Nat.zero_le _) (Nat.zero_le _) (⟨rfl, rfl, rfl⟩)
  · refine q_iload_n dX8_run_5 rfl rfl ?_
    refine q_sipush (v := 500) dX8_run_6 rfl ?_
    refine q_icmp_le 14 dX8_run_9 (by decide) (fun cB => ?_) (fun cB => ?_)
    · exact absurd (hb.resolve_left cA) (Int32.not_lt.mpr cB)
    · refine q_iconst (v := (-1)) dX8_run_12 rfl ?_
      exact q_iret dX8_run_13 rfl (Nat.zero_le _) (Nat.zero_le _) (⟨rfl, rfl, rfl⟩)
theorem c_run_few {m : Nat} (hm0 : 1 ≤ m) (hm : m ≤ 500) (hn : n < 2) (hX : hat as h X (xo T P S U M D L I tw dr lot yr tc)) (ht : hat as h tw (twn aw ax ay ao n)) : Det Γ l mX8_run rX8_run [.ref X, .int (nI m)] as h (some (.int (-2))) h := by
  refine Con.of (by decide +kernel) rfl rfl (Nat.le_of_ble_eq_true rfl) ?_
  refine q_iload_n dX8_run_0 rfl rfl ?_
  refine q_iconst (v := 1) dX8_run_1 rfl ?_
  refine q_icmp_lt 12 dX8_run_2 (by decide) (fun z => absurd z (nI_nlt (b := 1) (by omega) (by omega))) (fun _ => ?_)
  refine q_iload_n dX8_run_5 rfl rfl ?_
  refine q_sipush (v := 500) dX8_run_6 rfl ?_
  refine q_icmp_le 14 dX8_run_9 (by decide) (fun _ => ?_) (fun z => absurd (nI_le (b := 500) (by omega) (by omega)) z)
  refine q_aload_n dX8_run_14 rfl rfl ?_
  refine q_get dX8_run_15 fX8_run_64 (hX) rfl ?_
  refine q_get dX8_run_18 fX8_run_109 (ht) rfl ?_
  refine q_iconst (v := 2) dX8_run_21 rfl ?_
  refine q_icmp_ge 28 dX8_run_22 (by decide) (fun z => absurd z (nI_ge (b := 2) hn (by omega))) (fun _ => ?_)
  refine q_bipush (v := (-2)) dX8_run_25 rfl ?_
  exact q_iret dX8_run_27 rfl (Nat.zero_le _) (Nat.zero_le _) (⟨rfl, rfl, rfl⟩)
theorem c_run {m : Nat} (hm0 : 1 ≤ m) (hm : m ≤ 500) (hn : 2 ≤ n) (hn8 : n ≤ 8) (hlim : lim ≤ 9) (hX : hat as h X (xo T P S U M D L I tw dr lot yr tc)) (hP : hat as h P (ob 4 [.ref pr])) (hpr : hat as h pr (aI Γ 80 f)) (hU : hat as h U (ob 7 [.ref ur])) (hur : hat as h ur (aI Γ 6 u)) (hu : u 0 = nI lim) (hM : hat as h M (ob 3 [.int x0, .int x1, .int x2, .int x3, .int x4])) (ht : hat as h tw (twn aw ax ay ao n)) (hw : hat as h aw (aI Γ 8 w)) (hx : hat as h ax (aI Γ 8 x)) (hy : hat as h ay (aI Γ 8 y)) (e20 : ur ≠ pr) (e21 : aw ≠ pr) (e22 : ax ≠ pr) (e23 : ay ≠ pr) : Det Γ l mX8_run rX8_run [.ref X, .int (nI m)] as h (some (.int (runS w x y n lim (lot, f, x0, x1, x2, x3, x4) m).2)) (mH Γ X T P S U M D L I tw dr pr yr tc h (runS w x y n lim (lot, f, x0, x1, x2, x3, x4) m).1) := by
  have e1 := hat_oo hX hM (by decide)
  have e2 := hat_oa hX hpr
  have e3 := hat_ao hpr hM
  have f1 : ∀ s : msT, hat as (mH Γ X T P S U M D L I tw dr pr yr tc h s) P (ob 4 [.ref pr]) := fun s => mH_o hP (hat_oo hP hX (by decide)) (hat_oa hP hpr) (hat_oo hP hM (by decide))
  have f2 : ∀ s : msT, hat as (mH Γ X T P S U M D L I tw dr pr yr tc h s) U (ob 7 [.ref ur]) := fun s => mH_o hU (hat_oo hU hX (by decide)) (hat_oa hU hpr) (hat_oo hU hM (by decide))
  have f3 : ∀ s : msT, hat as (mH Γ X T P S U M D L I tw dr pr yr tc h s) ur (aI Γ 6 u) := fun s => mH_o hur (hat_ao hur hX) e20 (hat_ao hur hM)
  have f4 : ∀ s : msT, hat as (mH Γ X T P S U M D L I tw dr pr yr tc h s) tw (twn aw ax ay ao n) := fun s => mH_o ht (hat_oo ht hX (by decide)) (hat_oa ht hpr) (hat_oo ht hM (by decide))
  have f5 : ∀ s : msT, hat as (mH Γ X T P S U M D L I tw dr pr yr tc h s) aw (aI Γ 8 w) := fun s => mH_o hw (hat_ao hw hX) e21 (hat_ao hw hM)
  have f6 : ∀ s : msT, hat as (mH Γ X T P S U M D L I tw dr pr yr tc h s) ax (aI Γ 8 x) := fun s => mH_o hx (hat_ao hx hX) e22 (hat_ao hx hM)
  have f7 : ∀ s : msT, hat as (mH Γ X T P S U M D L I tw dr pr yr tc h s) ay (aI Γ 8 y) := fun s => mH_o hy (hat_ao hy hX) e23 (hat_ao hy hM)
  have key : ∀ (d c : Nat) (v2 v3 : Int32) (ls : List (Nat × Value)) (h' : aH), c + d = m → v2 = (runS w x y n lim (lot, f, x0, x1, x2, x3, x4) c).2 → v3 = nI c → h' = mH Γ X T P S U M D L I tw dr pr yr tc h (runS w x y n lim (lot, f, x0, x1, x2, x3, x4) c).1 → lin ls [(0, .ref X), (1, .int (nI m)), (2, .int v2), (3, .int v3)] → V Γ l mX8_run rX8_run (Zm Γ rX8_run (qD (some (.int (runS w x y n lim (lot, f, x0, x1, x2, x3, x4) m).2)) as (mH Γ X T P S U M D L I tw dr pr yr tc h (runS w x y n lim (lot, f, x0, x1, x2, x3, x4) m).1))) 0 0 32 ls [] as h' := by
    intro d
    induction d with
    | zero =>
      intro c v2 v3 ls h' hc e v e' hl
      subst e v e'
      refine V.at ?_ hl
      refine q_iload_n dX8_run_32 rfl rfl ?_
      refine q_iload_n dX8_run_33 rfl rfl ?_
      refine q_icmp_ge 62 dX8_run_34 (by decide) (fun _ => ?_) (fun z => absurd (nI_le (by omega) (by omega)) z)
      refine q_iload_n dX8_run_62 rfl rfl ?_
      exact q_iret dX8_run_63 rfl (Nat.zero_le _) (Nat.zero_le _) (⟨by rw [show c = m by omega], rfl, by rw [show c = m by omega]⟩)
    | succ d ih =>
      intro c v2 v3 ls h' hc e v e' hl
      subst e v e'
      refine V.at ?_ hl
      have hMc := mH_M (Γ := Γ) (X := X) (T := T) (P := P) (S := S) (U := U) (D := D) (L := L) (I := I) (tw := tw) (dr := dr) (pr := pr) (yr := yr) (tc := tc) (h := h) (s := (runS w x y n lim (lot, f, x0, x1, x2, x3, x4) (c + 1)).1) hM.1
      have hXc := mH_X (Γ := Γ) (T := T) (P := P) (S := S) (U := U) (D := D) (L := L) (I := I) (tw := tw) (dr := dr) (yr := yr) (tc := tc) (h := h) (s := (runS w x y n lim (lot, f, x0, x1, x2, x3, x4) (c + 1)).1) hX.1 e1 e2
      refine q_iload_n dX8_run_32 rfl rfl ?_
      refine q_iload_n dX8_run_33 rfl rfl ?_
      refine q_icmp_ge 62 dX8_run_34 (by decide) (fun z => absurd z (nI_ge (by omega) (by omega))) (fun _ => ?_)
      refine q_aload_n dX8_run_37 rfl rfl ?_
      refine q_callVd dX8_run_38 wX8_run_149 (c_holdMeeting hn hn8 hlim (mH_X hX.1 e1 e2) (f1 _) (mH_p hpr.1 e3) (f2 _) (f3 _) hu (mH_M hM.1) (f4 _) (f5 _) (f6 _) (f7 _)) (mH_X hX.1 e1 e2) ⟨_, _, rfl⟩ rfl rfl (Nat.le_of_ble_eq_true rfl) ⟨⟨Nat.le_of_ble_eq_true rfl, Nat.le_of_ble_eq_true rfl⟩, Nat.le_of_ble_eq_true rfl, Nat.le_of_ble_eq_true rfl⟩ ?_
      refine V.hp (h' := mH Γ X T P S U M D L I tw dr pr yr tc h (runS w x y n lim (lot, f, x0, x1, x2, x3, x4) (c + 1)).1) ?_ (mH_mH e1 e2 e3)
      refine q_aload_n dX8_run_41 rfl rfl ?_
      refine q_get dX8_run_42 fX8_run_36 (hXc) rfl ?_
      refine q_get dX8_run_45 fX8_run_152 (hMc) rfl ?_
      refine q_bipush (v := (-9)) dX8_run_48 rfl ?_
      refine q_icmp_eq 56 dX8_run_50 (by decide) (fun cA => ?_) (fun cA => ?_)
      · refine q_iinc1 dX8_run_56 rfl (by decide) ?_
        refine q_goto 32 dX8_run_59 (by decide) ?_
        exact ih (c + 1) _ _ _ _ (by omega) (by first | exact (if_pos cA).symm | exact (if_neg cA).symm) (nI_s c) rfl ⟨rfl, rfl, rfl, rfl, trivial⟩
      · refine q_iinc1 dX8_run_53 rfl (by decide) ?_
        refine q_iinc1 dX8_run_56 rfl (by decide) ?_
        refine q_goto 32 dX8_run_59 (by decide) ?_
        exact ih (c + 1) _ _ _ _ (by omega) (by first | exact (if_pos cA).symm | exact (if_neg cA).symm) (nI_s c) rfl ⟨rfl, rfl, rfl, rfl, trivial⟩
  refine Con.of (by decide +kernel) rfl rfl (Nat.le_of_ble_eq_true rfl) ?_
  refine q_iload_n dX8_run_0 rfl rfl ?_
  refine q_iconst (v := 1) dX8_run_1 rfl ?_
  refine q_icmp_lt 12 dX8_run_2 (by decide) (fun z => absurd z (nI_nlt (b := 1) (by omega) (by omega))) (fun _ => ?_)
  refine q_iload_n dX8_run_5 rfl rfl ?_
  refine q_sipush (v := 500) dX8_run_6 rfl ?_
  refine q_icmp_le 14 dX8_run_9 (by decide) (fun _ => ?_) (fun z => absurd (nI_le (b := 500) (by omega) (by omega)) z)
  refine q_aload_n dX8_run_14 rfl rfl ?_
  refine q_get dX8_run_15 fX8_run_64 (hX) rfl ?_
  refine q_get dX8_run_18 fX8_run_109 (ht) rfl ?_
  refine q_iconst (v := 2) dX8_run_21 rfl ?_
  refine q_icmp_ge 28 dX8_run_22 (by decide) (fun _ => ?_) (fun z => absurd (nI_le (a := 2) hn (by omega)) z)
  refine q_iconst (v := 0) dX8_run_28 rfl ?_
  refine q_istore_n dX8_run_29 rfl (by decide) ?_
  refine q_iconst (v := 0) dX8_run_30 rfl ?_
  refine q_istore_n dX8_run_31 rfl (by decide) ?_
  exact key m 0 _ _ _ _ (by omega) rfl rfl (by unfold mH; dsimp only [runS]; rw [hset_same hX.2, hset_same hpr.2, hset_same hM.2]) ⟨rfl, rfl, rfl, rfl, trivial⟩
theorem c_met_bad {q : Int32} (hb : q.toInt < 0 ∨ 3 < q.toInt) : Det Γ l mX8_met rX8_met [.ref X, .int q] as h (some (.int (-1))) h := by
  refine Con.of (by decide +kernel) rfl rfl (Nat.le_of_ble_eq_true rfl) ?_
  refine q_iload_n dX8_met_0 rfl rfl ?_
  refine q_tableOut 64 dX8_met_1 (hb) (by decide) ?_
  refine q_iconst (v := (-1)) dX8_met_64 rfl ?_
  exact q_iret dX8_met_65 rfl (Nat.zero_le _) (Nat.zero_le _) (⟨rfl, rfl, rfl⟩)
theorem c_met {j : Nat} (hj : j < 4) (hX : hat as h X (xo T P S U M D L I tw dr lot yr tc)) (hM : hat as h M (ob 3 [.int x0, .int x1, .int x2, .int x3, .int x4])) : Det Γ l mX8_met rX8_met [.ref X, .int (nI j)] as h (some (.int (([x0, x1, x2, x3] : List Int32).getD j 0))) h := by
  refine Con.of (by decide +kernel) rfl rfl (Nat.le_of_ble_eq_true rfl) ?_
  rcases (show j = 0 ∨ j = 1 ∨ j = 2 ∨ j = 3 by omega) with rfl | rfl | rfl | rfl
  · skip
    refine q_iload_n dX8_met_0 rfl rfl ?_
    refine q_tableIn 32 dX8_met_1 (by decide) (by decide) rfl (by decide) ?_
    refine q_aload_n dX8_met_32 rfl rfl ?_
    refine q_get dX8_met_33 fX8_met_36 (hX) rfl ?_
    refine q_get dX8_met_36 fX8_met_155 (hM) rfl ?_
    exact q_iret dX8_met_39 rfl (Nat.zero_le _) (Nat.zero_le _) (⟨rfl, rfl, rfl⟩)
  · skip
    refine q_iload_n dX8_met_0 rfl rfl ?_
    refine q_tableIn 40 dX8_met_1 (by decide) (by decide) rfl (by decide) ?_
    refine q_aload_n dX8_met_40 rfl rfl ?_
    refine q_get dX8_met_41 fX8_met_36 (hX) rfl ?_
    refine q_get dX8_met_44 fX8_met_158 (hM) rfl ?_
    exact q_iret dX8_met_47 rfl (Nat.zero_le _) (Nat.zero_le _) (⟨rfl, rfl, rfl⟩)
  · skip
    refine q_iload_n dX8_met_0 rfl rfl ?_
    refine q_tableIn 48 dX8_met_1 (by decide) (by decide) rfl (by decide) ?_
    refine q_aload_n dX8_met_48 rfl rfl ?_
    refine q_get dX8_met_49 fX8_met_36 (hX) rfl ?_
    refine q_get dX8_met_52 fX8_met_161 (hM) rfl ?_
    exact q_iret dX8_met_55 rfl (Nat.zero_le _) (Nat.zero_le _) (⟨rfl, rfl, rfl⟩)
  · skip
    refine q_iload_n dX8_met_0 rfl rfl ?_
    refine q_tableIn 56 dX8_met_1 (by decide) (by decide) rfl (by decide) ?_
    refine q_aload_n dX8_met_56 rfl rfl ?_
    refine q_get dX8_met_57 fX8_met_36 (hX) rfl ?_
    refine q_get dX8_met_60 fX8_met_152 (hM) rfl ?_
    exact q_iret dX8_met_63 rfl (Nat.zero_le _) (Nat.zero_le _) (⟨rfl, rfl, rfl⟩)
end

