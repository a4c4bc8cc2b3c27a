/-! PURSES (X4): one field, an array of 80 ints -/
abbrev mX4_held : mT := (yX4_held, RX4, cX4_held, 3, (some .int), wsX4_held)
abbrev rX4_held : Room := { frames := 0, cells := 0, slots := 0, locals := 0 }
theorem dX4_held_0 : decode cX4_held 0 = .ok (.aload_n 0, 1) := by decide +kernel
theorem dX4_held_1 : decode cX4_held 1 = .ok (.getfield 9, 3) := by decide +kernel
theorem dX4_held_4 : decode cX4_held 4 = .ok (.iload_n 1, 1) := by decide +kernel
theorem dX4_held_5 : decode cX4_held 5 = .ok (.bipush 10, 2) := by decide +kernel
theorem dX4_held_7 : decode cX4_held 7 = .ok (.imul, 1) := by decide +kernel
theorem dX4_held_8 : decode cX4_held 8 = .ok (.iload_n 2, 1) := by decide +kernel
theorem dX4_held_9 : decode cX4_held 9 = .ok (.iadd, 1) := by decide +kernel
theorem dX4_held_10 : decode cX4_held 10 = .ok (.iaload, 1) := by decide +kernel
theorem dX4_held_11 : decode cX4_held 11 = .ok (.ireturn, 1) := by decide +kernel
theorem iX4_held_4 : ∀ w ∈ wsX40, w ∈ wsX4_held := fun w h => List.mem_cons_of_mem _ (List.mem_append_right _ h)
theorem fX4_held_9 : FL mX4_held 9 4 0 := ⟨_, _, _, rfl, by decide, iX4_held_4, by decide +kernel⟩
abbrev mX4_put : mT := (yX4_put, RX4, cX4_put, 4, none, wsX4_put)
abbrev rX4_put : Room := { frames := 0, cells := 0, slots := 0, locals := 0 }
theorem dX4_put_0 : decode cX4_put 0 = .ok (.aload_n 0, 1) := by decide +kernel
theorem dX4_put_1 : decode cX4_put 1 = .ok (.getfield 9, 3) := by decide +kernel
theorem dX4_put_4 : decode cX4_put 4 = .ok (.iload_n 1, 1) := by decide +kernel
theorem dX4_put_5 : decode cX4_put 5 = .ok (.bipush 10, 2) := by decide +kernel
theorem dX4_put_7 : decode cX4_put 7 = .ok (.imul, 1) := by decide +kernel
theorem dX4_put_8 : decode cX4_put 8 = .ok (.iload_n 2, 1) := by decide +kernel
theorem dX4_put_9 : decode cX4_put 9 = .ok (.iadd, 1) := by decide +kernel
theorem dX4_put_10 : decode cX4_put 10 = .ok (.iload_n 3, 1) := by decide +kernel
theorem dX4_put_11 : decode cX4_put 11 = .ok (.iastore, 1) := by decide +kernel
theorem dX4_put_12 : decode cX4_put 12 = .ok (.return_, 1) := by decide +kernel
theorem iX4_put_4 : ∀ w ∈ wsX40, w ∈ wsX4_put := fun w h => List.mem_cons_of_mem _ (List.mem_append_right _ h)
theorem fX4_put_9 : FL mX4_put 9 4 0 := ⟨_, _, _, rfl, by decide, iX4_put_4, by decide +kernel⟩
abbrev mX4_empty : mT := (yX4_empty, RX4, cX4_empty, 2, none, wsX4_empty)
abbrev rX4_empty : Room := { frames := 0, cells := 0, slots := 0, locals := 0 }
theorem dX4_empty_0 : decode cX4_empty 0 = .ok (.iconst 0, 1) := by decide +kernel
theorem dX4_empty_1 : decode cX4_empty 1 = .ok (.istore_n 1, 1) := by decide +kernel
theorem dX4_empty_2 : decode cX4_empty 2 = .ok (.iload_n 1, 1) := by decide +kernel
theorem dX4_empty_3 : decode cX4_empty 3 = .ok (.aload_n 0, 1) := by decide +kernel
theorem dX4_empty_4 : decode cX4_empty 4 = .ok (.getfield 9, 3) := by decide +kernel
theorem dX4_empty_7 : decode cX4_empty 7 = .ok (.arraylength, 1) := by decide +kernel
theorem dX4_empty_8 : decode cX4_empty 8 = .ok (.if_icmp .ge 16, 3) := by decide +kernel
theorem dX4_empty_11 : decode cX4_empty 11 = .ok (.aload_n 0, 1) := by decide +kernel
theorem dX4_empty_12 : decode cX4_empty 12 = .ok (.getfield 9, 3) := by decide +kernel
theorem dX4_empty_15 : decode cX4_empty 15 = .ok (.iload_n 1, 1) := by decide +kernel
theorem dX4_empty_16 : decode cX4_empty 16 = .ok (.iconst 0, 1) := by decide +kernel
theorem dX4_empty_17 : decode cX4_empty 17 = .ok (.iastore, 1) := by decide +kernel
theorem dX4_empty_18 : decode cX4_empty 18 = .ok (.iinc 1 1, 3) := by decide +kernel
theorem dX4_empty_21 : decode cX4_empty 21 = .ok (.goto (-19), 3) := by decide +kernel
theorem dX4_empty_24 : decode cX4_empty 24 = .ok (.return_, 1) := by decide +kernel
theorem iX4_empty_4 : ∀ w ∈ wsX40, w ∈ wsX4_empty := fun w h => List.mem_cons_of_mem _ (List.mem_append_right _ h)
theorem fX4_empty_9 : FL mX4_empty 9 4 0 := ⟨_, _, _, rfl, by decide, iX4_empty_4, by decide +kernel⟩
abbrev mX4_copyFrom : mT := (yX4_copyFrom, RX4, cX4_copyFrom, 2, none, wsX4_copyFrom)
abbrev rX4_copyFrom : Room := { frames := 1, cells := 0, slots := 0, locals := 40 }
theorem dX4_copyFrom_0 : decode cX4_copyFrom 0 = .ok (.aload_n 1, 1) := by decide +kernel
theorem dX4_copyFrom_1 : decode cX4_copyFrom 1 = .ok (.getfield 9, 3) := by decide +kernel
theorem dX4_copyFrom_4 : decode cX4_copyFrom 4 = .ok (.iconst 0, 1) := by decide +kernel
theorem dX4_copyFrom_5 : decode cX4_copyFrom 5 = .ok (.aload_n 0, 1) := by decide +kernel
theorem dX4_copyFrom_6 : decode cX4_copyFrom 6 = .ok (.getfield 9, 3) := by decide +kernel
theorem dX4_copyFrom_9 : decode cX4_copyFrom 9 = .ok (.iconst 0, 1) := by decide +kernel
theorem dX4_copyFrom_10 : decode cX4_copyFrom 10 = .ok (.aload_n 0, 1) := by decide +kernel
theorem dX4_copyFrom_11 : decode cX4_copyFrom 11 = .ok (.getfield 9, 3) := by decide +kernel
theorem dX4_copyFrom_14 : decode cX4_copyFrom 14 = .ok (.arraylength, 1) := by decide +kernel
theorem dX4_copyFrom_15 : decode cX4_copyFrom 15 = .ok (.invokestatic 15, 3) := by decide +kernel
theorem dX4_copyFrom_18 : decode cX4_copyFrom 18 = .ok (.return_, 1) := by decide +kernel
theorem iX4_copyFrom_4 : ∀ w ∈ wsX40, w ∈ wsX4_copyFrom := fun w h => List.mem_cons_of_mem _ (List.mem_append_right _ h)
theorem fX4_copyFrom_9 : FL mX4_copyFrom 9 4 0 := ⟨_, _, _, rfl, by decide, iX4_copyFrom_4, by decide +kernel⟩
abbrev mX4_coinsAbove : mT := (yX4_coinsAbove, RX4, cX4_coinsAbove, 5, (some .int), wsX4_coinsAbove)
abbrev rX4_coinsAbove : Room := { frames := 1, cells := 0, slots := 0, locals := 22 }
theorem dX4_coinsAbove_0 : decode cX4_coinsAbove 0 = .ok (.iconst 0, 1) := by decide +kernel
theorem dX4_coinsAbove_1 : decode cX4_coinsAbove 1 = .ok (.istore_n 3, 1) := by decide +kernel
theorem dX4_coinsAbove_2 : decode cX4_coinsAbove 2 = .ok (.iload_n 2, 1) := by decide +kernel
theorem dX4_coinsAbove_3 : decode cX4_coinsAbove 3 = .ok (.iconst 1, 1) := by decide +kernel
theorem dX4_coinsAbove_4 : decode cX4_coinsAbove 4 = .ok (.iadd, 1) := by decide +kernel
theorem dX4_coinsAbove_5 : decode cX4_coinsAbove 5 = .ok (.istore 4, 2) := by decide +kernel
theorem dX4_coinsAbove_7 : decode cX4_coinsAbove 7 = .ok (.iload 4, 2) := by decide +kernel
theorem dX4_coinsAbove_9 : decode cX4_coinsAbove 9 = .ok (.bipush 10, 2) := by decide +kernel
theorem dX4_coinsAbove_11 : decode cX4_coinsAbove 11 = .ok (.if_icmp .ge 19, 3) := by decide +kernel
theorem dX4_coinsAbove_14 : decode cX4_coinsAbove 14 = .ok (.iload_n 3, 1) := by decide +kernel
theorem dX4_coinsAbove_15 : decode cX4_coinsAbove 15 = .ok (.aload_n 0, 1) := by decide +kernel
theorem dX4_coinsAbove_16 : decode cX4_coinsAbove 16 = .ok (.iload_n 1, 1) := by decide +kernel
theorem dX4_coinsAbove_17 : decode cX4_coinsAbove 17 = .ok (.iload 4, 2) := by decide +kernel
theorem dX4_coinsAbove_19 : decode cX4_coinsAbove 19 = .ok (.invokevirtual 25, 3) := by decide +kernel
theorem dX4_coinsAbove_22 : decode cX4_coinsAbove 22 = .ok (.iadd, 1) := by decide +kernel
theorem dX4_coinsAbove_23 : decode cX4_coinsAbove 23 = .ok (.istore_n 3, 1) := by decide +kernel
theorem dX4_coinsAbove_24 : decode cX4_coinsAbove 24 = .ok (.iinc 4 1, 3) := by decide +kernel
theorem dX4_coinsAbove_27 : decode cX4_coinsAbove 27 = .ok (.goto (-20), 3) := by decide +kernel
theorem dX4_coinsAbove_30 : decode cX4_coinsAbove 30 = .ok (.iload_n 3, 1) := by decide +kernel
theorem dX4_coinsAbove_31 : decode cX4_coinsAbove 31 = .ok (.ireturn, 1) := by decide +kernel
set_option maxRecDepth 20000 in
theorem ggX4_coinsAbove_X4_held : GoodIn wsX4_coinsAbove wsX4_held := goodIn_r _ [5, 6, 7] (by decide +kernel) (by decide +kernel)
set_option maxRecDepth 20000 in
theorem gX4_coinsAbove_X4_held : GoodIn wsX4_coinsAbove (wsV RX4 25 RX4 yX4_held wsX4_held) := goodIn_app (goodIn_of _ (by decide +kernel)) ggX4_coinsAbove_X4_held
theorem wX4_coinsAbove_25 : CWV mX4_coinsAbove 25 mX4_held 2 := ⟨gX4_coinsAbove_X4_held, ⟨_, rfl⟩, rfl, by decide +kernel, by decide +kernel, by decide +kernel⟩
abbrev mX4_coinsOf : mT := (yX4_coinsOf, RX4, cX4_coinsOf, 2, (some .int), wsX4_coinsOf)
abbrev rX4_coinsOf : Room := { frames := 2, cells := 0, slots := 0, locals := 46 }
theorem dX4_coinsOf_0 : decode cX4_coinsOf 0 = .ok (.aload_n 0, 1) := by decide +kernel
theorem dX4_coinsOf_1 : decode cX4_coinsOf 1 = .ok (.iload_n 1, 1) := by decide +kernel
theorem dX4_coinsOf_2 : decode cX4_coinsOf 2 = .ok (.iconst (-1), 1) := by decide +kernel
theorem dX4_coinsOf_3 : decode cX4_coinsOf 3 = .ok (.invokevirtual 21, 3) := by decide +kernel
theorem dX4_coinsOf_6 : decode cX4_coinsOf 6 = .ok (.ireturn, 1) := by decide +kernel
set_option maxRecDepth 20000 in
theorem ggX4_coinsOf_X4_coinsAbove : GoodIn wsX4_coinsOf wsX4_coinsAbove := goodIn_r _ [5, 6, 7, 8, 4, 9, 10, 11] (by decide +kernel) (by decide +kernel)
set_option maxRecDepth 20000 in
theorem gX4_coinsOf_X4_coinsAbove : GoodIn wsX4_coinsOf (wsV RX4 21 RX4 yX4_coinsAbove wsX4_coinsAbove) := goodIn_app (goodIn_of _ (by decide +kernel)) ggX4_coinsOf_X4_coinsAbove
theorem wX4_coinsOf_21 : CWV mX4_coinsOf 21 mX4_coinsAbove 2 := ⟨gX4_coinsOf_X4_coinsAbove, ⟨_, rfl⟩, rfl, by decide +kernel, by decide +kernel, by decide +kernel⟩
abbrev mX4_ofWeight : mT := (yX4_ofWeight, RX4, cX4_ofWeight, 4, (some .int), wsX4_ofWeight)
abbrev rX4_ofWeight : Room := { frames := 1, cells := 0, slots := 0, locals := 22 }
theorem dX4_ofWeight_0 : decode cX4_ofWeight 0 = .ok (.iconst 0, 1) := by decide +kernel
theorem dX4_ofWeight_1 : decode cX4_ofWeight 1 = .ok (.istore_n 2, 1) := by decide +kernel
theorem dX4_ofWeight_2 : decode cX4_ofWeight 2 = .ok (.iconst 0, 1) := by decide +kernel
theorem dX4_ofWeight_3 : decode cX4_ofWeight 3 = .ok (.istore_n 3, 1) := by decide +kernel
theorem dX4_ofWeight_4 : decode cX4_ofWeight 4 = .ok (.iload_n 3, 1) := by decide +kernel
theorem dX4_ofWeight_5 : decode cX4_ofWeight 5 = .ok (.bipush 8, 2) := by decide +kernel
theorem dX4_ofWeight_7 : decode cX4_ofWeight 7 = .ok (.if_icmp .ge 18, 3) := by decide +kernel
theorem dX4_ofWeight_10 : decode cX4_ofWeight 10 = .ok (.iload_n 2, 1) := by decide +kernel
theorem dX4_ofWeight_11 : decode cX4_ofWeight 11 = .ok (.aload_n 0, 1) := by decide +kernel
theorem dX4_ofWeight_12 : decode cX4_ofWeight 12 = .ok (.iload_n 3, 1) := by decide +kernel
theorem dX4_ofWeight_13 : decode cX4_ofWeight 13 = .ok (.iload_n 1, 1) := by decide +kernel
theorem dX4_ofWeight_14 : decode cX4_ofWeight 14 = .ok (.invokevirtual 25, 3) := by decide +kernel
theorem dX4_ofWeight_17 : decode cX4_ofWeight 17 = .ok (.iadd, 1) := by decide +kernel
theorem dX4_ofWeight_18 : decode cX4_ofWeight 18 = .ok (.istore_n 2, 1) := by decide +kernel
theorem dX4_ofWeight_19 : decode cX4_ofWeight 19 = .ok (.iinc 3 1, 3) := by decide +kernel
theorem dX4_ofWeight_22 : decode cX4_ofWeight 22 = .ok (.goto (-18), 3) := by decide +kernel
theorem dX4_ofWeight_25 : decode cX4_ofWeight 25 = .ok (.iload_n 2, 1) := by decide +kernel
theorem dX4_ofWeight_26 : decode cX4_ofWeight 26 = .ok (.ireturn, 1) := by decide +kernel
set_option maxRecDepth 20000 in
theorem ggX4_ofWeight_X4_held : GoodIn wsX4_ofWeight wsX4_held := goodIn_r _ [5, 6, 7] (by decide +kernel) (by decide +kernel)
set_option maxRecDepth 20000 in
theorem gX4_ofWeight_X4_held : GoodIn wsX4_ofWeight (wsV RX4 25 RX4 yX4_held wsX4_held) := goodIn_app (goodIn_of _ (by decide +kernel)) ggX4_ofWeight_X4_held
theorem wX4_ofWeight_25 : CWV mX4_ofWeight 25 mX4_held 2 := ⟨gX4_ofWeight_X4_held, ⟨_, rfl⟩, rfl, by decide +kernel, by decide +kernel, by decide +kernel⟩
abbrev mX4_allCoins : mT := (yX4_allCoins, RX4, cX4_allCoins, 3, (some .int), wsX4_allCoins)
abbrev rX4_allCoins : Room := { frames := 3, cells := 0, slots := 0, locals := 67 }
theorem dX4_allCoins_0 : decode cX4_allCoins 0 = .ok (.iconst 0, 1) := by decide +kernel
theorem dX4_allCoins_1 : decode cX4_allCoins 1 = .ok (.istore_n 1, 1) := by decide +kernel
theorem dX4_allCoins_2 : decode cX4_allCoins 2 = .ok (.iconst 0, 1) := by decide +kernel
theorem dX4_allCoins_3 : decode cX4_allCoins 3 = .ok (.istore_n 2, 1) := by decide +kernel
theorem dX4_allCoins_4 : decode cX4_allCoins 4 = .ok (.iload_n 2, 1) := by decide +kernel
theorem dX4_allCoins_5 : decode cX4_allCoins 5 = .ok (.bipush 8, 2) := by decide +kernel
theorem dX4_allCoins_7 : decode cX4_allCoins 7 = .ok (.if_icmp .ge 17, 3) := by decide +kernel
theorem dX4_allCoins_10 : decode cX4_allCoins 10 = .ok (.iload_n 1, 1) := by decide +kernel
theorem dX4_allCoins_11 : decode cX4_allCoins 11 = .ok (.aload_n 0, 1) := by decide +kernel
theorem dX4_allCoins_12 : decode cX4_allCoins 12 = .ok (.iload_n 2, 1) := by decide +kernel
theorem dX4_allCoins_13 : decode cX4_allCoins 13 = .ok (.invokevirtual 28, 3) := by decide +kernel
theorem dX4_allCoins_16 : decode cX4_allCoins 16 = .ok (.iadd, 1) := by decide +kernel
theorem dX4_allCoins_17 : decode cX4_allCoins 17 = .ok (.istore_n 1, 1) := by decide +kernel
theorem dX4_allCoins_18 : decode cX4_allCoins 18 = .ok (.iinc 2 1, 3) := by decide +kernel
theorem dX4_allCoins_21 : decode cX4_allCoins 21 = .ok (.goto (-17), 3) := by decide +kernel
theorem dX4_allCoins_24 : decode cX4_allCoins 24 = .ok (.iload_n 1, 1) := by decide +kernel
theorem dX4_allCoins_25 : decode cX4_allCoins 25 = .ok (.ireturn, 1) := by decide +kernel
set_option maxRecDepth 20000 in
theorem ggX4_allCoins_X4_coinsOf : GoodIn wsX4_allCoins wsX4_coinsOf := goodIn_r _ [5, 6, 7, 8, 4, 9, 10, 11, 12, 13, 14, 15] (by decide +kernel) (by decide +kernel)
set_option maxRecDepth 20000 in
theorem gX4_allCoins_X4_coinsOf : GoodIn wsX4_allCoins (wsV RX4 28 RX4 yX4_coinsOf wsX4_coinsOf) := goodIn_app (goodIn_of _ (by decide +kernel)) ggX4_allCoins_X4_coinsOf
theorem wX4_allCoins_28 : CWV mX4_allCoins 28 mX4_coinsOf 1 := ⟨gX4_allCoins_X4_coinsOf, ⟨_, rfl⟩, rfl, by decide +kernel, by decide +kernel, by decide +kernel⟩
abbrev mX4_allGrains : mT := (yX4_allGrains, RX4, cX4_allGrains, 3, (some .int), wsX4_allGrains)
abbrev rX4_allGrains : Room := { frames := 2, cells := 0, slots := 0, locals := 45 }
theorem dX4_allGrains_0 : decode cX4_allGrains 0 = .ok (.iconst 0, 1) := by decide +kernel
theorem dX4_allGrains_1 : decode cX4_allGrains 1 = .ok (.istore_n 1, 1) := by decide +kernel
theorem dX4_allGrains_2 : decode cX4_allGrains 2 = .ok (.iconst 0, 1) := by decide +kernel
theorem dX4_allGrains_3 : decode cX4_allGrains 3 = .ok (.istore_n 2, 1) := by decide +kernel
theorem dX4_allGrains_4 : decode cX4_allGrains 4 = .ok (.iload_n 2, 1) := by decide +kernel
theorem dX4_allGrains_5 : decode cX4_allGrains 5 = .ok (.bipush 10, 2) := by decide +kernel
theorem dX4_allGrains_7 : decode cX4_allGrains 7 = .ok (.if_icmp .ge 22, 3) := by decide +kernel
theorem dX4_allGrains_10 : decode cX4_allGrains 10 = .ok (.iload_n 1, 1) := by decide +kernel
theorem dX4_allGrains_11 : decode cX4_allGrains 11 = .ok (.aload_n 0, 1) := by decide +kernel
theorem dX4_allGrains_12 : decode cX4_allGrains 12 = .ok (.iload_n 2, 1) := by decide +kernel
theorem dX4_allGrains_13 : decode cX4_allGrains 13 = .ok (.invokevirtual 32, 3) := by decide +kernel
theorem dX4_allGrains_16 : decode cX4_allGrains 16 = .ok (.bipush 10, 2) := by decide +kernel
theorem dX4_allGrains_18 : decode cX4_allGrains 18 = .ok (.iload_n 2, 1) := by decide +kernel
theorem dX4_allGrains_19 : decode cX4_allGrains 19 = .ok (.isub, 1) := by decide +kernel
theorem dX4_allGrains_20 : decode cX4_allGrains 20 = .ok (.imul, 1) := by decide +kernel
theorem dX4_allGrains_21 : decode cX4_allGrains 21 = .ok (.iadd, 1) := by decide +kernel
theorem dX4_allGrains_22 : decode cX4_allGrains 22 = .ok (.istore_n 1, 1) := by decide +kernel
theorem dX4_allGrains_23 : decode cX4_allGrains 23 = .ok (.iinc 2 1, 3) := by decide +kernel
theorem dX4_allGrains_26 : decode cX4_allGrains 26 = .ok (.goto (-22), 3) := by decide +kernel
theorem dX4_allGrains_29 : decode cX4_allGrains 29 = .ok (.iload_n 1, 1) := by decide +kernel
theorem dX4_allGrains_30 : decode cX4_allGrains 30 = .ok (.ireturn, 1) := by decide +kernel
set_option maxRecDepth 20000 in
theorem ggX4_allGrains_X4_ofWeight : GoodIn wsX4_allGrains wsX4_ofWeight := goodIn_r _ [5, 6, 7, 8, 4, 9, 10, 11] (by decide +kernel) (by decide +kernel)
set_option maxRecDepth 20000 in
theorem gX4_allGrains_X4_ofWeight : GoodIn wsX4_allGrains (wsV RX4 32 RX4 yX4_ofWeight wsX4_ofWeight) := goodIn_app (goodIn_of _ (by decide +kernel)) ggX4_allGrains_X4_ofWeight
theorem wX4_allGrains_32 : CWV mX4_allGrains 32 mX4_ofWeight 1 := ⟨gX4_allGrains_X4_ofWeight, ⟨_, rfl⟩, rfl, by decide +kernel, by decide +kernel, by decide +kernel⟩
abbrev mX4_move : mT := (yX4_move, RX4, cX4_move, 4, (some .boolean), wsX4_move)
abbrev rX4_move : Room := { frames := 1, cells := 0, slots := 0, locals := 23 }
theorem dX4_move_0 : decode cX4_move 0 = .ok (.aload_n 0, 1) := by decide +kernel
theorem dX4_move_1 : decode cX4_move 1 = .ok (.iload_n 2, 1) := by decide +kernel
theorem dX4_move_2 : decode cX4_move 2 = .ok (.iload_n 3, 1) := by decide +kernel
theorem dX4_move_3 : decode cX4_move 3 = .ok (.invokevirtual 25, 3) := by decide +kernel
theorem dX4_move_6 : decode cX4_move 6 = .ok (.bipush 99, 2) := by decide +kernel
theorem dX4_move_8 : decode cX4_move 8 = .ok (.if_icmp .lt 5, 3) := by decide +kernel
theorem dX4_move_11 : decode cX4_move 11 = .ok (.iconst 0, 1) := by decide +kernel
theorem dX4_move_12 : decode cX4_move 12 = .ok (.ireturn, 1) := by decide +kernel
theorem dX4_move_13 : decode cX4_move 13 = .ok (.aload_n 0, 1) := by decide +kernel
theorem dX4_move_14 : decode cX4_move 14 = .ok (.iload_n 1, 1) := by decide +kernel
theorem dX4_move_15 : decode cX4_move 15 = .ok (.iload_n 3, 1) := by decide +kernel
theorem dX4_move_16 : decode cX4_move 16 = .ok (.aload_n 0, 1) := by decide +kernel
theorem dX4_move_17 : decode cX4_move 17 = .ok (.iload_n 1, 1) := by decide +kernel
theorem dX4_move_18 : decode cX4_move 18 = .ok (.iload_n 3, 1) := by decide +kernel
theorem dX4_move_19 : decode cX4_move 19 = .ok (.invokevirtual 25, 3) := by decide +kernel
theorem dX4_move_22 : decode cX4_move 22 = .ok (.iconst 1, 1) := by decide +kernel
theorem dX4_move_23 : decode cX4_move 23 = .ok (.isub, 1) := by decide +kernel
theorem dX4_move_24 : decode cX4_move 24 = .ok (.invokevirtual 35, 3) := by decide +kernel
theorem dX4_move_27 : decode cX4_move 27 = .ok (.aload_n 0, 1) := by decide +kernel
theorem dX4_move_28 : decode cX4_move 28 = .ok (.iload_n 2, 1) := by decide +kernel
theorem dX4_move_29 : decode cX4_move 29 = .ok (.iload_n 3, 1) := by decide +kernel
theorem dX4_move_30 : decode cX4_move 30 = .ok (.aload_n 0, 1) := by decide +kernel
theorem dX4_move_31 : decode cX4_move 31 = .ok (.iload_n 2, 1) := by decide +kernel
theorem dX4_move_32 : decode cX4_move 32 = .ok (.iload_n 3, 1) := by decide +kernel
theorem dX4_move_33 : decode cX4_move 33 = .ok (.invokevirtual 25, 3) := by decide +kernel
theorem dX4_move_36 : decode cX4_move 36 = .ok (.iconst 1, 1) := by decide +kernel
theorem dX4_move_37 : decode cX4_move 37 = .ok (.iadd, 1) := by decide +kernel
theorem dX4_move_38 : decode cX4_move 38 = .ok (.invokevirtual 35, 3) := by decide +kernel
theorem dX4_move_41 : decode cX4_move 41 = .ok (.iconst 1, 1) := by decide +kernel
theorem dX4_move_42 : decode cX4_move 42 = .ok (.ireturn, 1) := by decide +kernel
set_option maxRecDepth 20000 in
theorem ggX4_move_X4_held : GoodIn wsX4_move wsX4_held := goodIn_r _ [5, 6, 11] (by decide +kernel) (by decide +kernel)
set_option maxRecDepth 20000 in
theorem gX4_move_X4_held : GoodIn wsX4_move (wsV RX4 25 RX4 yX4_held wsX4_held) := goodIn_app (goodIn_of _ (by decide +kernel)) ggX4_move_X4_held
theorem wX4_move_25 : CWV mX4_move 25 mX4_held 2 := ⟨gX4_move_X4_held, ⟨_, rfl⟩, rfl, by decide +kernel, by decide +kernel, by decide +kernel⟩
set_option maxRecDepth 20000 in
theorem ggX4_move_X4_put : GoodIn wsX4_move wsX4_put := goodIn_r _ [10, 6, 11] (by decide +kernel) (by decide +kernel)
set_option maxRecDepth 20000 in
theorem gX4_move_X4_put : GoodIn wsX4_move (wsV RX4 35 RX4 yX4_put wsX4_put) := goodIn_app (goodIn_of _ (by decide +kernel)) ggX4_move_X4_put
theorem wX4_move_35 : CWV mX4_move 35 mX4_put 3 := ⟨gX4_move_X4_put, ⟨_, rfl⟩, rfl, by decide +kernel, by decide +kernel, by decide +kernel⟩
abbrev mX4_loseGrain : mT := (yX4_loseGrain, RX4, cX4_loseGrain, 4, none, wsX4_loseGrain)
abbrev rX4_loseGrain : Room := { frames := 1, cells := 0, slots := 0, locals := 40 }
theorem dX4_loseGrain_0 : decode cX4_loseGrain 0 = .ok (.iconst 0, 1) := by decide +kernel
theorem dX4_loseGrain_1 : decode cX4_loseGrain 1 = .ok (.istore_n 1, 1) := by decide +kernel
theorem dX4_loseGrain_2 : decode cX4_loseGrain 2 = .ok (.iload_n 1, 1) := by decide +kernel
theorem dX4_loseGrain_3 : decode cX4_loseGrain 3 = .ok (.bipush 8, 2) := by decide +kernel
theorem dX4_loseGrain_5 : decode cX4_loseGrain 5 = .ok (.if_icmp .ge 72, 3) := by decide +kernel
theorem dX4_loseGrain_8 : decode cX4_loseGrain 8 = .ok (.aload_n 0, 1) := by decide +kernel
theorem dX4_loseGrain_9 : decode cX4_loseGrain 9 = .ok (.iload_n 1, 1) := by decide +kernel
theorem dX4_loseGrain_10 : decode cX4_loseGrain 10 = .ok (.bipush 9, 2) := by decide +kernel
theorem dX4_loseGrain_12 : decode cX4_loseGrain 12 = .ok (.invokevirtual 25, 3) := by decide +kernel
theorem dX4_loseGrain_15 : decode cX4_loseGrain 15 = .ok (.aload_n 0, 1) := by decide +kernel
theorem dX4_loseGrain_16 : decode cX4_loseGrain 16 = .ok (.iload_n 1, 1) := by decide +kernel
theorem dX4_loseGrain_17 : decode cX4_loseGrain 17 = .ok (.bipush 8, 2) := by decide +kernel
theorem dX4_loseGrain_19 : decode cX4_loseGrain 19 = .ok (.invokevirtual 25, 3) := by decide +kernel
theorem dX4_loseGrain_22 : decode cX4_loseGrain 22 = .ok (.iadd, 1) := by decide +kernel
theorem dX4_loseGrain_23 : decode cX4_loseGrain 23 = .ok (.istore_n 2, 1) := by decide +kernel
theorem dX4_loseGrain_24 : decode cX4_loseGrain 24 = .ok (.aload_n 0, 1) := by decide +kernel
theorem dX4_loseGrain_25 : decode cX4_loseGrain 25 = .ok (.iload_n 1, 1) := by decide +kernel
theorem dX4_loseGrain_26 : decode cX4_loseGrain 26 = .ok (.bipush 9, 2) := by decide +kernel
theorem dX4_loseGrain_28 : decode cX4_loseGrain 28 = .ok (.bipush 99, 2) := by decide +kernel
theorem dX4_loseGrain_30 : decode cX4_loseGrain 30 = .ok (.iload_n 2, 1) := by decide +kernel
theorem dX4_loseGrain_31 : decode cX4_loseGrain 31 = .ok (.invokestatic 39, 3) := by decide +kernel
theorem dX4_loseGrain_34 : decode cX4_loseGrain 34 = .ok (.invokevirtual 35, 3) := by decide +kernel
theorem dX4_loseGrain_37 : decode cX4_loseGrain 37 = .ok (.bipush 8, 2) := by decide +kernel
theorem dX4_loseGrain_39 : decode cX4_loseGrain 39 = .ok (.istore_n 3, 1) := by decide +kernel
theorem dX4_loseGrain_40 : decode cX4_loseGrain 40 = .ok (.iload_n 3, 1) := by decide +kernel
theorem dX4_loseGrain_41 : decode cX4_loseGrain 41 = .ok (.ifCond .le 23, 3) := by decide +kernel
theorem dX4_loseGrain_44 : decode cX4_loseGrain 44 = .ok (.aload_n 0, 1) := by decide +kernel
theorem dX4_loseGrain_45 : decode cX4_loseGrain 45 = .ok (.iload_n 1, 1) := by decide +kernel
theorem dX4_loseGrain_46 : decode cX4_loseGrain 46 = .ok (.iload_n 3, 1) := by decide +kernel
theorem dX4_loseGrain_47 : decode cX4_loseGrain 47 = .ok (.aload_n 0, 1) := by decide +kernel
theorem dX4_loseGrain_48 : decode cX4_loseGrain 48 = .ok (.iload_n 1, 1) := by decide +kernel
theorem dX4_loseGrain_49 : decode cX4_loseGrain 49 = .ok (.iload_n 3, 1) := by decide +kernel
theorem dX4_loseGrain_50 : decode cX4_loseGrain 50 = .ok (.iconst 1, 1) := by decide +kernel
theorem dX4_loseGrain_51 : decode cX4_loseGrain 51 = .ok (.isub, 1) := by decide +kernel
theorem dX4_loseGrain_52 : decode cX4_loseGrain 52 = .ok (.invokevirtual 25, 3) := by decide +kernel
theorem dX4_loseGrain_55 : decode cX4_loseGrain 55 = .ok (.invokevirtual 35, 3) := by decide +kernel
theorem dX4_loseGrain_58 : decode cX4_loseGrain 58 = .ok (.iinc 3 (-1), 3) := by decide +kernel
theorem dX4_loseGrain_61 : decode cX4_loseGrain 61 = .ok (.goto (-21), 3) := by decide +kernel
theorem dX4_loseGrain_64 : decode cX4_loseGrain 64 = .ok (.aload_n 0, 1) := by decide +kernel
theorem dX4_loseGrain_65 : decode cX4_loseGrain 65 = .ok (.iload_n 1, 1) := by decide +kernel
theorem dX4_loseGrain_66 : decode cX4_loseGrain 66 = .ok (.iconst 0, 1) := by decide +kernel
theorem dX4_loseGrain_67 : decode cX4_loseGrain 67 = .ok (.iconst 0, 1) := by decide +kernel
theorem dX4_loseGrain_68 : decode cX4_loseGrain 68 = .ok (.invokevirtual 35, 3) := by decide +kernel
theorem dX4_loseGrain_71 : decode cX4_loseGrain 71 = .ok (.iinc 1 1, 3) := by decide +kernel
theorem dX4_loseGrain_74 : decode cX4_loseGrain 74 = .ok (.goto (-72), 3) := by decide +kernel
theorem dX4_loseGrain_77 : decode cX4_loseGrain 77 = .ok (.return_, 1) := by decide +kernel
set_option maxRecDepth 20000 in
theorem ggX4_loseGrain_X4_held : GoodIn wsX4_loseGrain wsX4_held := goodIn_r _ [9, 10, 15] (by decide +kernel) (by decide +kernel)
set_option maxRecDepth 20000 in
theorem gX4_loseGrain_X4_held : GoodIn wsX4_loseGrain (wsV RX4 25 RX4 yX4_held wsX4_held) := goodIn_app (goodIn_of _ (by decide +kernel)) ggX4_loseGrain_X4_held
theorem wX4_loseGrain_25 : CWV mX4_loseGrain 25 mX4_held 2 := ⟨gX4_loseGrain_X4_held, ⟨_, rfl⟩, rfl, by decide +kernel, by decide +kernel, by decide +kernel⟩
set_option maxRecDepth 20000 in
theorem ggX4_loseGrain_X4_put : GoodIn wsX4_loseGrain wsX4_put := goodIn_r _ [14, 10, 15] (by decide +kernel) (by decide +kernel)
set_option maxRecDepth 20000 in
theorem gX4_loseGrain_X4_put : GoodIn wsX4_loseGrain (wsV RX4 35 RX4 yX4_put wsX4_put) := goodIn_app (goodIn_of _ (by decide +kernel)) ggX4_loseGrain_X4_put
theorem wX4_loseGrain_35 : CWV mX4_loseGrain 35 mX4_put 3 := ⟨gX4_loseGrain_X4_put, ⟨_, rfl⟩, rfl, by decide +kernel, by decide +kernel, by decide +kernel⟩
abbrev mX4_isShabby : mT := (yX4_isShabby, RX4, cX4_isShabby, 2, (some .boolean), wsX4_isShabby)
abbrev rX4_isShabby : Room := { frames := 4, cells := 0, slots := 0, locals := 89 }
theorem dX4_isShabby_0 : decode cX4_isShabby 0 = .ok (.aload_n 0, 1) := by decide +kernel
theorem dX4_isShabby_1 : decode cX4_isShabby 1 = .ok (.invokevirtual 44, 3) := by decide +kernel
theorem dX4_isShabby_4 : decode cX4_isShabby 4 = .ok (.bipush 10, 2) := by decide +kernel
theorem dX4_isShabby_6 : decode cX4_isShabby 6 = .ok (.imul, 1) := by decide +kernel
theorem dX4_isShabby_7 : decode cX4_isShabby 7 = .ok (.iload_n 1, 1) := by decide +kernel
theorem dX4_isShabby_8 : decode cX4_isShabby 8 = .ok (.aload_n 0, 1) := by decide +kernel
theorem dX4_isShabby_9 : decode cX4_isShabby 9 = .ok (.invokevirtual 48, 3) := by decide +kernel
theorem dX4_isShabby_12 : decode cX4_isShabby 12 = .ok (.imul, 1) := by decide +kernel
theorem dX4_isShabby_13 : decode cX4_isShabby 13 = .ok (.if_icmp .gt 7, 3) := by decide +kernel
theorem dX4_isShabby_16 : decode cX4_isShabby 16 = .ok (.iconst 1, 1) := by decide +kernel
theorem dX4_isShabby_17 : decode cX4_isShabby 17 = .ok (.goto 4, 3) := by decide +kernel
theorem dX4_isShabby_20 : decode cX4_isShabby 20 = .ok (.iconst 0, 1) := by decide +kernel
theorem dX4_isShabby_21 : decode cX4_isShabby 21 = .ok (.ireturn, 1) := by decide +kernel
set_option maxRecDepth 20000 in
theorem ggX4_isShabby_X4_allGrains : GoodIn wsX4_isShabby wsX4_allGrains := goodIn_r _ [5, 6, 7, 8, 4, 9, 10, 11, 12, 13, 14, 27] (by decide +kernel) (by decide +kernel)
set_option maxRecDepth 20000 in
theorem gX4_isShabby_X4_allGrains : GoodIn wsX4_isShabby (wsV RX4 44 RX4 yX4_allGrains wsX4_allGrains) := goodIn_app (goodIn_of _ (by decide +kernel)) ggX4_isShabby_X4_allGrains
theorem wX4_isShabby_44 : CWV mX4_isShabby 44 mX4_allGrains 0 := ⟨gX4_isShabby_X4_allGrains, ⟨_, rfl⟩, rfl, by decide +kernel, by decide +kernel, by decide +kernel⟩
set_option maxRecDepth 20000 in
theorem ggX4_isShabby_X4_allCoins : GoodIn wsX4_isShabby wsX4_allCoins := goodIn_r _ [18, 19, 20, 21, 4, 22, 23, 24, 25, 26, 10, 11, 12, 13, 14, 27] (by decide +kernel) (by decide +kernel)
set_option maxRecDepth 20000 in
theorem gX4_isShabby_X4_allCoins : GoodIn wsX4_isShabby (wsV RX4 48 RX4 yX4_allCoins wsX4_allCoins) := goodIn_app (goodIn_of _ (by decide +kernel)) ggX4_isShabby_X4_allCoins
theorem wX4_isShabby_48 : CWV mX4_isShabby 48 mX4_allCoins 0 := ⟨gX4_isShabby_X4_allCoins, ⟨_, rfl⟩, rfl, by decide +kernel, by decide +kernel, by decide +kernel⟩
/-- coins of a person; of a weight; all; grains of all -/
def pCo (f : Nat → Int32) (p : Nat) : Int32 := sr (fun w => f (p * 10 + w)) 0 10
def pWt (f : Nat → Int32) (w : Nat) : Int32 := sr (fun p => f (p * 10 + w)) 0 8
def pAll (f : Nat → Int32) : Int32 := sr (pCo f) 0 8
def pGr (f : Nat → Int32) : Int32 := sr (fun w => pWt f w * (10 - nI w)) 0 10
/-- all coins miss a grain more -/
def wearF (f : Nat → Int32) (j : Nat) : Int32 := if j % 10 = 9 then (if f j + f (j - 1) < 99 then f j + f (j - 1) else 99) else if j % 10 = 0 then 0 else f (j - 1)
def zeroF (k : Nat) (f : Nat → Int32) : Nat → Int32 := fun j => if j < k then 0 else f j
theorem zeroF_s (k : Nat) (f : Nat → Int32) : upd (zeroF k f) k 0 = zeroF (k + 1) f := by
  funext j
  unfold zeroF
  by_cases hj : j = k
  · rw [hj, pk_us, if_pos (by omega)]
  · rw [pk_un hj]
    by_cases h : j < k
    · rw [if_pos h, if_pos (by omega)]
    · rw [if_neg h, if_neg (by omega)]
def moveF (f : Nat → Int32) (i j : Nat) : Nat → Int32 := upd (upd f i (f i - 1)) j (upd f i (f i - 1) j + 1)
/-- wear under way: all below 10 p are done, and those of p above w -/
def wrI (f : Nat → Int32) (p w : Nat) : Nat → Int32 := fun j => if j < p * 10 ∨ (p * 10 + w < j ∧ j ≤ p * 10 + 9) then wearF f j else f j
section
variable {Γ : gT} {l : Launch} {as : List Nat} {h : aH} {q r : Nat} {f : Nat → Int32}
theorem c_held (hq : hat as h q (ob 4 [.ref r])) (hr : hat as h r (aI Γ 80 f)) {p w : Nat} (hp : p < 8) (hw : w < 10) : Det Γ l mX4_held rX4_held [.ref q, .int (nI p), .int (nI w)] as h (some (.int (f (p * 10 + w)))) h := by
  refine Con.of (by decide +kernel) rfl rfl (Nat.le_of_ble_eq_true rfl) ?_
  refine q_aload_n dX4_held_0 rfl rfl ?_
  refine q_get dX4_held_1 fX4_held_9 (hq) rfl ?_
  refine q_iload_n dX4_held_4 rfl rfl ?_
  refine q_bipush (v := 10) dX4_held_5 rfl ?_
  refine q_imul dX4_held_7 ?_
  refine q_iload_n dX4_held_8 rfl rfl ?_
  refine q_iadd dX4_held_9 ?_
  refine q_iald dX4_held_10 (hr) (in10 hp hw) ?_
  exact q_iret dX4_held_11 rfl (Nat.zero_le _) (Nat.zero_le _) (⟨by rw [cl10 hp hw], rfl, rfl⟩)
theorem c_put (hq : hat as h q (ob 4 [.ref r])) (hr : hat as h r (aI Γ 80 f)) {p w : Nat} (hp : p < 8) (hw : w < 10) (x : Int32) : Det Γ l mX4_put rX4_put [.ref q, .int (nI p), .int (nI w), .int x] as h none (hset h r (aI Γ 80 (upd f (p * 10 + w) x))) := by
  refine Con.of (by decide +kernel) rfl rfl (Nat.le_of_ble_eq_true rfl) ?_
  refine q_aload_n dX4_put_0 rfl rfl ?_
  refine q_get dX4_put_1 fX4_put_9 (hq) rfl ?_
  refine q_iload_n dX4_put_4 rfl rfl ?_
  refine q_bipush (v := 10) dX4_put_5 rfl ?_
  refine q_imul dX4_put_7 ?_
  refine q_iload_n dX4_put_8 rfl rfl ?_
  refine q_iadd dX4_put_9 ?_
  refine q_iload_n dX4_put_10 rfl rfl ?_
  refine q_iast dX4_put_11 (hr) (in10 hp hw) ?_
  exact q_vret dX4_put_12 rfl (Nat.zero_le _) (Nat.zero_le _) (⟨rfl, rfl, by rw [cl10 hp hw]⟩)
theorem empty_loop (hq : hat as h q (ob 4 [.ref r])) (hr : hat as h r (aI Γ 80 f)) : ∀ (d k : Nat) (y : Int32) (h' : aH), k + d = 80 → y = nI k → h' = hset h r (aI Γ 80 (zeroF k f)) → V Γ l mX4_empty rX4_empty (Zm Γ rX4_empty (qD none as (hset h r (aI Γ 80 (zeroF 80 f))))) 0 0 2 [(0, .ref q), (1, .int y)] [] as h' := by
  have hqr : q ≠ r := hat_un hq hr (fun z => by cases z)
  intro d
  induction d with
  | zero =>
    intro k y h' hk hy hh
    subst hy hh
    refine q_iload_n dX4_empty_2 rfl rfl ?_
    refine q_aload_n dX4_empty_3 rfl rfl ?_
    refine q_get dX4_empty_4 fX4_empty_9 (hat_ne hq hqr) rfl ?_
    refine q_alen dX4_empty_7 (hat_set hr) rfl ?_
    refine q_icmp_ge 24 dX4_empty_8 (by decide) (fun _ => ?_) (fun z => absurd (ge_c 80 rfl (by omega) (by omega)) z)
    exact q_vret dX4_empty_24 rfl (Nat.zero_le _) (Nat.zero_le _) (⟨rfl, rfl, by rw [show k = 80 by omega]⟩)
  | succ d ih =>
    intro k y h' hk hy hh
    subst hy hh
    refine q_iload_n dX4_empty_2 rfl rfl ?_
    refine q_aload_n dX4_empty_3 rfl rfl ?_
    refine q_get dX4_empty_4 fX4_empty_9 (hat_ne hq hqr) rfl ?_
    refine q_alen dX4_empty_7 (hat_set hr) rfl ?_
    refine q_icmp_ge 24 dX4_empty_8 (by decide) (fun z => absurd z (lt_c 80 rfl (by omega) (by omega))) (fun _ => ?_)
    refine q_aload_n dX4_empty_11 rfl rfl ?_
    refine q_get dX4_empty_12 fX4_empty_9 (hat_ne hq hqr) rfl ?_
    refine q_iload_n dX4_empty_15 rfl rfl ?_
    refine q_iconst (v := 0) dX4_empty_16 rfl ?_
    refine q_iast dX4_empty_17 (hat_set hr) (in_nI (show k < 80 by omega) (by omega)) ?_
    refine q_iinc1 dX4_empty_18 rfl (by decide) ?_
    refine q_goto 2 dX4_empty_21 (by decide) ?_
    exact V.at (ih (k + 1) _ _ (by omega) (nI_s k) (by rw [hset_hset, nI_clamp (by omega), zeroF_s])) ⟨rfl, rfl, trivial⟩
theorem c_empty (hq : hat as h q (ob 4 [.ref r])) (hr : hat as h r (aI Γ 80 f)) : Det Γ l mX4_empty rX4_empty [.ref q] as h none (hset h r (aI Γ 80 (zeroF 80 f))) := by
  refine Con.of (by decide +kernel) rfl rfl (Nat.le_of_ble_eq_true rfl) ?_
  refine q_iconst (v := 0) dX4_empty_0 rfl ?_
  refine q_istore_n dX4_empty_1 rfl (by decide) ?_
  exact V.at (empty_loop hq hr 80 0 _ _ (by omega) rfl (by rw [hset_same]; exact hr.2)) ⟨rfl, rfl, trivial⟩
theorem c_copyFrom (hq : hat as h q (ob 4 [.ref r])) (hr : hat as h r (aI Γ 80 f)) {q' r' : Nat} {g : Nat → Int32} (hq' : hat as h q' (ob 4 [.ref r'])) (hr' : hat as h r' (aI Γ 80 g)) : Det Γ l mX4_copyFrom rX4_copyFrom [.ref q, .ref q'] as h none (hset h r (aI Γ 80 (va_cpy g f 0 0 80))) := by
  refine Con.of (by decide +kernel) rfl rfl (Nat.le_of_ble_eq_true rfl) ?_
  refine q_aload_n dX4_copyFrom_0 rfl rfl ?_
  refine q_get dX4_copyFrom_1 fX4_copyFrom_9 (hq') rfl ?_
  refine q_iconst (v := 0) dX4_copyFrom_4 rfl ?_
  refine q_aload_n dX4_copyFrom_5 rfl rfl ?_
  refine q_get dX4_copyFrom_6 fX4_copyFrom_9 (hq) rfl ?_
  refine q_iconst (v := 0) dX4_copyFrom_9 rfl ?_
  refine q_aload_n dX4_copyFrom_10 rfl rfl ?_
  refine q_get dX4_copyFrom_11 fX4_copyFrom_9 (hq) rfl ?_
  refine q_alen dX4_copyFrom_14 hr rfl ?_
  refine q_copy (N := 80) dX4_copyFrom_15 (by decide +kernel) hr' hr (by decide) (Nat.le_of_ble_eq_true rfl) (by decide +kernel) ?_
  exact q_vret dX4_copyFrom_18 rfl (Nat.zero_le _) (Nat.zero_le _) (⟨rfl, rfl, rfl⟩)
theorem coinsAbove_loop (hq : hat as h q (ob 4 [.ref r])) (hr : hat as h r (aI Γ 80 f)) {p a : Nat} (hp : p < 8) {v : Int32} : ∀ (d k : Nat) (x y : Int32), a + k + d = 10 → x = sr (fun w => f (p * 10 + w)) a k → y = nI (a + k) → V Γ l mX4_coinsAbove rX4_coinsAbove (Zm Γ rX4_coinsAbove (qD (some (.int (sr (fun w => f (p * 10 + w)) a (10 - a)))) as h)) 0 0 7 [(0, .ref q), (1, .int (nI p)), (2, .int v), (3, .int x), (4, .int y)] [] as h := by
  intro d
  induction d with
  | zero =>
    intro k x y hk hx hy
    subst hx hy
    refine q_iload dX4_coinsAbove_7 rfl ?_
    refine q_bipush (v := 10) dX4_coinsAbove_9 rfl ?_
    refine q_icmp_ge 30 dX4_coinsAbove_11 (by decide) (fun _ => ?_) (fun z => absurd (ge_c 10 rfl (by omega) (by omega)) z)
    refine q_iload_n dX4_coinsAbove_30 rfl rfl ?_
    exact q_iret dX4_coinsAbove_31 rfl (Nat.zero_le _) (Nat.zero_le _) (⟨by rw [show 10 - a = k by omega], rfl, rfl⟩)
  | succ d ih =>
    intro k x y hk hx hy
    subst hx hy
    refine q_iload dX4_coinsAbove_7 rfl ?_
    refine q_bipush (v := 10) dX4_coinsAbove_9 rfl ?_
    refine q_icmp_ge 30 dX4_coinsAbove_11 (by decide) (fun z => absurd z (lt_c 10 rfl (by omega) (by omega))) (fun _ => ?_)
    refine q_iload_n dX4_coinsAbove_14 rfl rfl ?_
    refine q_aload_n dX4_coinsAbove_15 rfl rfl ?_
    refine q_iload_n dX4_coinsAbove_16 rfl rfl ?_
    refine q_iload dX4_coinsAbove_17 rfl ?_
    refine q_callVd dX4_coinsAbove_19 wX4_coinsAbove_25 (c_held hq hr hp (show a + k < 10 by omega)) (hq) ⟨_, _, rfl⟩ rfl rfl (Nat.le_of_ble_eq_true rfl) ⟨⟨Nat.le_of_ble_eq_true rfl, Nat.le_of_ble_eq_true rfl⟩, Nat.le_of_ble_eq_true rfl, Nat.le_of_ble_eq_true rfl⟩ ?_
    refine q_iadd dX4_coinsAbove_22 ?_
    refine q_istore_n dX4_coinsAbove_23 rfl (by decide) ?_
    refine q_iinc1 dX4_coinsAbove_24 rfl (by decide) ?_
    refine q_goto 7 dX4_coinsAbove_27 (by decide) ?_
    exact V.at (ih (k + 1) _ _ (by omega) rfl (nI_s (a + k))) ⟨rfl, rfl, rfl, rfl, rfl, trivial⟩
theorem c_coinsAbove (hq : hat as h q (ob 4 [.ref r])) (hr : hat as h r (aI Γ 80 f)) {p a : Nat} (hp : p < 8) (ha : a ≤ 10) {x : Int32} (hx : x + 1 = nI a) : Det Γ l mX4_coinsAbove rX4_coinsAbove [.ref q, .int (nI p), .int x] as h (some (.int (sr (fun w => f (p * 10 + w)) a (10 - a)))) h := by
  refine Con.of (by decide +kernel) rfl rfl (Nat.le_of_ble_eq_true rfl) ?_
  refine q_iconst (v := 0) dX4_coinsAbove_0 rfl ?_
  refine q_istore_n dX4_coinsAbove_1 rfl (by decide) ?_
  refine q_iload_n dX4_coinsAbove_2 rfl rfl ?_
  refine q_iconst (v := 1) dX4_coinsAbove_3 rfl ?_
  refine q_iadd dX4_coinsAbove_4 ?_
  refine q_istore dX4_coinsAbove_5 (by decide) ?_
  exact V.at (coinsAbove_loop hq hr hp (10 - a) 0 _ _ (by omega) rfl hx) ⟨rfl, rfl, rfl, rfl, rfl, trivial⟩
theorem c_coinsOf (hq : hat as h q (ob 4 [.ref r])) (hr : hat as h r (aI Γ 80 f)) {p : Nat} (hp : p < 8) : Det Γ l mX4_coinsOf rX4_coinsOf [.ref q, .int (nI p)] as h (some (.int (pCo f p))) h := by
  refine Con.of (by decide +kernel) rfl rfl (Nat.le_of_ble_eq_true rfl) ?_
  refine q_aload_n dX4_coinsOf_0 rfl rfl ?_
  refine q_iload_n dX4_coinsOf_1 rfl rfl ?_
  refine q_iconst (v := (-1)) dX4_coinsOf_2 rfl ?_
  refine q_callVd dX4_coinsOf_3 wX4_coinsOf_21 (c_coinsAbove hq hr (a := 0) (x := -1) hp (by omega) rfl) (hq) ⟨_, _, rfl⟩ rfl rfl (Nat.le_of_ble_eq_true rfl) ⟨⟨Nat.le_of_ble_eq_true rfl, Nat.le_of_ble_eq_true rfl⟩, Nat.le_of_ble_eq_true rfl, Nat.le_of_ble_eq_true rfl⟩ ?_
  exact q_iret dX4_coinsOf_6 rfl (Nat.zero_le _) (Nat.zero_le _) (⟨rfl, rfl, rfl⟩)
theorem ofWeight_loop (hq : hat as h q (ob 4 [.ref r])) (hr : hat as h r (aI Γ 80 f)) {w : Nat} (hw : w < 10) : ∀ (d k : Nat) (x y : Int32), k + d = 8 → x = sr (fun p => f (p * 10 + w)) 0 k → y = nI k → V Γ l mX4_ofWeight rX4_ofWeight (Zm Γ rX4_ofWeight (qD (some (.int (pWt f w))) as h)) 0 0 4 [(0, .ref q), (1, .int (nI w)), (2, .int x), (3, .int y)] [] as h := by
  intro d
  induction d with
  | zero =>
    intro k x y hk hx hy
    subst hx hy
    refine q_iload_n dX4_ofWeight_4 rfl rfl ?_
    refine q_bipush (v := 8) dX4_ofWeight_5 rfl ?_
    refine q_icmp_ge 25 dX4_ofWeight_7 (by decide) (fun _ => ?_) (fun z => absurd (ge_c 8 rfl (by omega) (by omega)) z)
    refine q_iload_n dX4_ofWeight_25 rfl rfl ?_
    exact q_iret dX4_ofWeight_26 rfl (Nat.zero_le _) (Nat.zero_le _) (⟨by rw [show k = 8 by omega]; rfl, rfl, rfl⟩)
  | succ d ih =>
    intro k x y hk hx hy
    subst hx hy
    refine q_iload_n dX4_ofWeight_4 rfl rfl ?_
    refine q_bipush (v := 8) dX4_ofWeight_5 rfl ?_
    refine q_icmp_ge 25 dX4_ofWeight_7 (by decide) (fun z => absurd z (lt_c 8 rfl (by omega) (by omega))) (fun _ => ?_)
    refine q_iload_n dX4_ofWeight_10 rfl rfl ?_
    refine q_aload_n dX4_ofWeight_11 rfl rfl ?_
    refine q_iload_n dX4_ofWeight_12 rfl rfl ?_
    refine q_iload_n dX4_ofWeight_13 rfl rfl ?_
    refine q_callVd dX4_ofWeight_14 wX4_ofWeight_25 (c_held hq hr (show k < 8 by omega) hw) (hq) ⟨_, _, rfl⟩ rfl rfl (Nat.le_of_ble_eq_true rfl) ⟨⟨Nat.le_of_ble_eq_true rfl, Nat.le_of_ble_eq_true rfl⟩, Nat.le_of_ble_eq_true rfl, Nat.le_of_ble_eq_true rfl⟩ ?_
    refine q_iadd dX4_ofWeight_17 ?_
    refine q_istore_n dX4_ofWeight_18 rfl (by decide) ?_
    refine q_iinc1 dX4_ofWeight_19 rfl (by decide) ?_
    refine q_goto 4 dX4_ofWeight_22 (by decide) ?_
    exact V.at (ih (k + 1) _ _ (by omega) (by simp only [sr, Nat.zero_add]) (nI_s k)) ⟨rfl, rfl, rfl, rfl, trivial⟩
theorem c_ofWeight (hq : hat as h q (ob 4 [.ref r])) (hr : hat as h r (aI Γ 80 f)) {w : Nat} (hw : w < 10) : Det Γ l mX4_ofWeight rX4_ofWeight [.ref q, .int (nI w)] as h (some (.int (pWt f w))) h := by
  refine Con.of (by decide +kernel) rfl rfl (Nat.le_of_ble_eq_true rfl) ?_
  refine q_iconst (v := 0) dX4_ofWeight_0 rfl ?_
  refine q_istore_n dX4_ofWeight_1 rfl (by decide) ?_
  refine q_iconst (v := 0) dX4_ofWeight_2 rfl ?_
  refine q_istore_n dX4_ofWeight_3 rfl (by decide) ?_
  exact V.at (ofWeight_loop hq hr hw 8 0 _ _ (by omega) rfl rfl) ⟨rfl, rfl, rfl, rfl, trivial⟩
theorem allCoins_loop (hq : hat as h q (ob 4 [.ref r])) (hr : hat as h r (aI Γ 80 f)) : ∀ (d k : Nat) (x y : Int32), k + d = 8 → x = sr (pCo f) 0 k → y = nI k → V Γ l mX4_allCoins rX4_allCoins (Zm Γ rX4_allCoins (qD (some (.int (pAll f))) as h)) 0 0 4 [(0, .ref q), (1, .int x), (2, .int y)] [] as h := by
  intro d
  induction d with
  | zero =>
    intro k x y hk hx hy
    subst hx hy
    refine q_iload_n dX4_allCoins_4 rfl rfl ?_
    refine q_bipush (v := 8) dX4_allCoins_5 rfl ?_
    refine q_icmp_ge 24 dX4_allCoins_7 (by decide) (fun _ => ?_) (fun z => absurd (ge_c 8 rfl (by omega) (by omega)) z)
    refine q_iload_n dX4_allCoins_24 rfl rfl ?_
    exact q_iret dX4_allCoins_25 rfl (Nat.zero_le _) (Nat.zero_le _) (⟨by rw [show k = 8 by omega]; rfl, rfl, rfl⟩)
  | succ d ih =>
    intro k x y hk hx hy
    subst hx hy
    refine q_iload_n dX4_allCoins_4 rfl rfl ?_
    refine q_bipush (v := 8) dX4_allCoins_5 rfl ?_
    refine q_icmp_ge 24 dX4_allCoins_7 (by decide) (fun z => absurd z (lt_c 8 rfl (by omega) (by omega))) (fun _ => ?_)
    refine q_iload_n dX4_allCoins_10 rfl rfl ?_
    refine q_aload_n dX4_allCoins_11 rfl rfl ?_
    refine q_iload_n dX4_allCoins_12 rfl rfl ?_
    refine q_callVd dX4_allCoins_13 wX4_allCoins_28 (c_coinsOf hq hr (show k < 8 by omega)) (hq) ⟨_, _, rfl⟩ rfl rfl (Nat.le_of_ble_eq_true rfl) ⟨⟨Nat.le_of_ble_eq_true rfl, Nat.le_of_ble_eq_true rfl⟩, Nat.le_of_ble_eq_true rfl, Nat.le_of_ble_eq_true rfl⟩ ?_
    refine q_iadd dX4_allCoins_16 ?_
    refine q_istore_n dX4_allCoins_17 rfl (by decide) ?_
    refine q_iinc1 dX4_allCoins_18 rfl (by decide) ?_
    refine q_goto 4 dX4_allCoins_21 (by decide) ?_
    exact V.at (ih (k + 1) _ _ (by omega) (by simp only [sr, Nat.zero_add]) (nI_s k)) ⟨rfl, rfl, rfl, trivial⟩
theorem c_allCoins (hq : hat as h q (ob 4 [.ref r])) (hr : hat as h r (aI Γ 80 f)) : Det Γ l mX4_allCoins rX4_allCoins [.ref q] as h (some (.int (pAll f))) h := by
  refine Con.of (by decide +kernel) rfl rfl (Nat.le_of_ble_eq_true rfl) ?_
  refine q_iconst (v := 0) dX4_allCoins_0 rfl ?_
  refine q_istore_n dX4_allCoins_1 rfl (by decide) ?_
  refine q_iconst (v := 0) dX4_allCoins_2 rfl ?_
  refine q_istore_n dX4_allCoins_3 rfl (by decide) ?_
  exact V.at (allCoins_loop hq hr 8 0 _ _ (by omega) rfl rfl) ⟨rfl, rfl, rfl, trivial⟩
theorem allGrains_loop (hq : hat as h q (ob 4 [.ref r])) (hr : hat as h r (aI Γ 80 f)) : ∀ (d k : Nat) (x y : Int32), k + d = 10 → x = sr (fun w => pWt f w * (10 - nI w)) 0 k → y = nI k → V Γ l mX4_allGrains rX4_allGrains (Zm Γ rX4_allGrains (qD (some (.int (pGr f))) as h)) 0 0 4 [(0, .ref q), (1, .int x), (2, .int y)] [] as h := by
  intro d
  induction d with
  | zero =>
    intro k x y hk hx hy
    subst hx hy
    refine q_iload_n dX4_allGrains_4 rfl rfl ?_
    refine q_bipush (v := 10) dX4_allGrains_5 rfl ?_
    refine q_icmp_ge 29 dX4_allGrains_7 (by decide) (fun _ => ?_) (fun z => absurd (ge_c 10 rfl (by omega) (by omega)) z)
    refine q_iload_n dX4_allGrains_29 rfl rfl ?_
    exact q_iret dX4_allGrains_30 rfl (Nat.zero_le _) (Nat.zero_le _) (⟨by rw [show k = 10 by omega]; rfl, rfl, rfl⟩)
  | succ d ih =>
    intro k x y hk hx hy
    subst hx hy
    refine q_iload_n dX4_allGrains_4 rfl rfl ?_
    refine q_bipush (v := 10) dX4_allGrains_5 rfl ?_
    refine q_icmp_ge 29 dX4_allGrains_7 (by decide) (fun z => absurd z (lt_c 10 rfl (by omega) (by omega))) (fun _ => ?_)
    refine q_iload_n dX4_allGrains_10 rfl rfl ?_
    refine q_aload_n dX4_allGrains_11 rfl rfl ?_
    refine q_iload_n dX4_allGrains_12 rfl rfl ?_
    refine q_callVd dX4_allGrains_13 wX4_allGrains_32 (c_ofWeight hq hr (show k < 10 by omega)) (hq) ⟨_, _, rfl⟩ rfl rfl (Nat.le_of_ble_eq_true rfl) ⟨⟨Nat.le_of_ble_eq_true rfl, Nat.le_of_ble_eq_true rfl⟩, Nat.le_of_ble_eq_true rfl, Nat.le_of_ble_eq_true rfl⟩ ?_
    refine q_bipush (v := 10) dX4_allGrains_16 rfl ?_
    refine q_iload_n dX4_allGrains_18 rfl rfl ?_
    refine q_isub dX4_allGrains_19 ?_
    refine q_imul dX4_allGrains_20 ?_
    refine q_iadd dX4_allGrains_21 ?_
    refine q_istore_n dX4_allGrains_22 rfl (by decide) ?_
    refine q_iinc1 dX4_allGrains_23 rfl (by decide) ?_
    refine q_goto 4 dX4_allGrains_26 (by decide) ?_
    exact V.at (ih (k + 1) _ _ (by omega) (by simp only [sr, Nat.zero_add]) (nI_s k)) ⟨rfl, rfl, rfl, trivial⟩
theorem c_allGrains (hq : hat as h q (ob 4 [.ref r])) (hr : hat as h r (aI Γ 80 f)) : Det Γ l mX4_allGrains rX4_allGrains [.ref q] as h (some (.int (pGr f))) h := by
  refine Con.of (by decide +kernel) rfl rfl (Nat.le_of_ble_eq_true rfl) ?_
  refine q_iconst (v := 0) dX4_allGrains_0 rfl ?_
  refine q_istore_n dX4_allGrains_1 rfl (by decide) ?_
  refine q_iconst (v := 0) dX4_allGrains_2 rfl ?_
  refine q_istore_n dX4_allGrains_3 rfl (by decide) ?_
  exact V.at (allGrains_loop hq hr 10 0 _ _ (by omega) rfl rfl) ⟨rfl, rfl, rfl, trivial⟩
theorem c_isShabby (hq : hat as h q (ob 4 [.ref r])) (hr : hat as h r (aI Γ 80 f)) {t : Int32} : Det Γ l mX4_isShabby rX4_isShabby [.ref q, .int t] as h (some (.int (if pGr f * 10 ≤ t * pAll f then 1 else 0))) h := by
  refine Con.of (by decide +kernel) rfl rfl (Nat.le_of_ble_eq_true rfl) ?_
  refine q_aload_n dX4_isShabby_0 rfl rfl ?_
  refine q_callVd dX4_isShabby_1 wX4_isShabby_44 (c_allGrains hq hr) (hq) ⟨_, _, rfl⟩ rfl rfl (Nat.le_of_ble_eq_true rfl) ⟨⟨Nat.le_of_ble_eq_true rfl, Nat.le_of_ble_eq_true rfl⟩, Nat.le_of_ble_eq_true rfl, Nat.le_of_ble_eq_true rfl⟩ ?_
  refine q_bipush (v := 10) dX4_isShabby_4 rfl ?_
  refine q_imul dX4_isShabby_6 ?_
  refine q_iload_n dX4_isShabby_7 rfl rfl ?_
  refine q_aload_n dX4_isShabby_8 rfl rfl ?_
  refine q_callVd dX4_isShabby_9 wX4_isShabby_48 (c_allCoins hq hr) (hq) ⟨_, _, rfl⟩ rfl rfl (Nat.le_of_ble_eq_true rfl) ⟨⟨Nat.le_of_ble_eq_true rfl, Nat.le_of_ble_eq_true rfl⟩, Nat.le_of_ble_eq_true rfl, Nat.le_of_ble_eq_true rfl⟩ ?_
  refine q_imul dX4_isShabby_12 ?_
  refine q_icmp_gt 20 dX4_isShabby_13 (by decide) (fun cc => ?_) (fun cc => ?_)
  · rw [if_neg (Int32.not_le.mpr cc)]
    refine q_iconst (v := 0) dX4_isShabby_20 rfl ?_
    exact q_zret dX4_isShabby_21 rfl (rfl) (Nat.zero_le _) (Nat.zero_le _) (⟨rfl, rfl, rfl⟩)
  · rw [if_pos (Int32.not_lt.mp cc)]
    refine q_iconst (v := 1) dX4_isShabby_16 rfl ?_
    refine q_goto 21 dX4_isShabby_17 (by decide) ?_
    exact q_zret dX4_isShabby_21 rfl (rfl) (Nat.zero_le _) (Nat.zero_le _) (⟨rfl, rfl, rfl⟩)
theorem c_move (hq : hat as h q (ob 4 [.ref r])) (hr : hat as h r (aI Γ 80 f)) {p t w : Nat} (hp : p < 8) (ht : t < 8) (hw : w < 10) : Det Γ l mX4_move rX4_move [.ref q, .int (nI p), .int (nI t), .int (nI w)] as h (some (.int (if f (t * 10 + w) < 99 then 1 else 0))) (if f (t * 10 + w) < 99 then hset h r (aI Γ 80 (moveF f (p * 10 + w) (t * 10 + w))) else h) := by
  have hqr : q ≠ r := hat_un hq hr (fun z => by cases z)
  refine Con.of (by decide +kernel) rfl rfl (Nat.le_of_ble_eq_true rfl) ?_
  refine q_aload_n dX4_move_0 rfl rfl ?_
  refine q_iload_n dX4_move_1 rfl rfl ?_
  refine q_iload_n dX4_move_2 rfl rfl ?_
  refine q_callVd dX4_move_3 wX4_move_25 (c_held hq hr ht hw) (hq) ⟨_, _, rfl⟩ rfl rfl (Nat.le_of_ble_eq_true rfl) ⟨⟨Nat.le_of_ble_eq_true rfl, Nat.le_of_ble_eq_true rfl⟩, Nat.le_of_ble_eq_true rfl, Nat.le_of_ble_eq_true rfl⟩ ?_
  refine q_bipush (v := 99) dX4_move_6 rfl ?_
  refine q_icmp_lt 13 dX4_move_8 (by decide) (fun cc => ?_) (fun cc => ?_)
  · rw [if_pos cc, if_pos cc]
    refine q_aload_n dX4_move_13 rfl rfl ?_
    refine q_iload_n dX4_move_14 rfl rfl ?_
    refine q_iload_n dX4_move_15 rfl rfl ?_
    refine q_aload_n dX4_move_16 rfl rfl ?_
    refine q_iload_n dX4_move_17 rfl rfl ?_
    refine q_iload_n dX4_move_18 rfl rfl ?_
    refine q_callVd dX4_move_19 wX4_move_25 (c_held hq hr hp hw) (hq) ⟨_, _, rfl⟩ rfl rfl (Nat.le_of_ble_eq_true rfl) ⟨⟨Nat.le_of_ble_eq_true rfl, Nat.le_of_ble_eq_true rfl⟩, Nat.le_of_ble_eq_true rfl, Nat.le_of_ble_eq_true rfl⟩ ?_
    refine q_iconst (v := 1) dX4_move_22 rfl ?_
    refine q_isub dX4_move_23 ?_
    refine q_callVd dX4_move_24 wX4_move_35 (c_put hq hr hp hw _) (hq) ⟨_, _, rfl⟩ rfl rfl (Nat.le_of_ble_eq_true rfl) ⟨⟨Nat.le_of_ble_eq_true rfl, Nat.le_of_ble_eq_true rfl⟩, Nat.le_of_ble_eq_true rfl, Nat.le_of_ble_eq_true rfl⟩ ?_
    refine q_aload_n dX4_move_27 rfl rfl ?_
    refine q_iload_n dX4_move_28 rfl rfl ?_
    refine q_iload_n dX4_move_29 rfl rfl ?_
    refine q_aload_n dX4_move_30 rfl rfl ?_
    refine q_iload_n dX4_move_31 rfl rfl ?_
    refine q_iload_n dX4_move_32 rfl rfl ?_
    refine q_callVd dX4_move_33 wX4_move_25 (c_held (hat_ne hq hqr) (hat_set hr) ht hw) (hat_ne hq hqr) ⟨_, _, rfl⟩ rfl rfl (Nat.le_of_ble_eq_true rfl) ⟨⟨Nat.le_of_ble_eq_true rfl, Nat.le_of_ble_eq_true rfl⟩, Nat.le_of_ble_eq_true rfl, Nat.le_of_ble_eq_true rfl⟩ ?_
    refine q_iconst (v := 1) dX4_move_36 rfl ?_
    refine q_iadd dX4_move_37 ?_
    refine q_callVd dX4_move_38 wX4_move_35 (c_put (hat_ne hq hqr) (hat_set hr) ht hw _) (hat_ne hq hqr) ⟨_, _, rfl⟩ rfl rfl (Nat.le_of_ble_eq_true rfl) ⟨⟨Nat.le_of_ble_eq_true rfl, Nat.le_of_ble_eq_true rfl⟩, Nat.le_of_ble_eq_true rfl, Nat.le_of_ble_eq_true rfl⟩ ?_
    refine q_iconst (v := 1) dX4_move_41 rfl ?_
    exact q_zret dX4_move_42 rfl (rfl) (Nat.zero_le _) (Nat.zero_le _) (⟨rfl, rfl, by rw [hset_hset]; rfl⟩)
  · rw [if_neg cc, if_neg cc]
    refine q_iconst (v := 0) dX4_move_11 rfl ?_
    exact q_zret dX4_move_12 rfl (rfl) (Nat.zero_le _) (Nat.zero_le _) (⟨rfl, rfl, rfl⟩)
end

