/-! LIGHTCOINS (X8): labour by kinds, a meeting -/
abbrev mX8_holdMeeting : mT := (yX8_holdMeeting, RX8, cX8_holdMeeting, 6, none, wsX8_holdMeeting)
abbrev rX8_holdMeeting : Room := { frames := 2, cells := 0, slots := 0, locals := 46 }
theorem dX8_holdMeeting_0 : decode cX8_holdMeeting 0 = .ok (.aload_n 0, 1) := by decide +kernel
theorem dX8_holdMeeting_1 : decode cX8_holdMeeting 1 = .ok (.getfield 64, 3) := by decide +kernel
theorem dX8_holdMeeting_4 : decode cX8_holdMeeting 4 = .ok (.getfield 109, 3) := by decide +kernel
theorem dX8_holdMeeting_7 : decode cX8_holdMeeting 7 = .ok (.istore_n 1, 1) := by decide +kernel
theorem dX8_holdMeeting_8 : decode cX8_holdMeeting 8 = .ok (.iload_n 1, 1) := by decide +kernel
theorem dX8_holdMeeting_9 : decode cX8_holdMeeting 9 = .ok (.iconst 2, 1) := by decide +kernel
theorem dX8_holdMeeting_10 : decode cX8_holdMeeting 10 = .ok (.if_icmp .ge 4, 3) := by decide +kernel
theorem dX8_holdMeeting_13 : decode cX8_holdMeeting 13 = .ok (.return_, 1) := by decide +kernel
theorem dX8_holdMeeting_14 : decode cX8_holdMeeting 14 = .ok (.aload_n 0, 1) := by decide +kernel
theorem dX8_holdMeeting_15 : decode cX8_holdMeeting 15 = .ok (.invokevirtual 305, 3) := by decide +kernel
theorem dX8_holdMeeting_18 : decode cX8_holdMeeting 18 = .ok (.iload_n 1, 1) := by decide +kernel
theorem dX8_holdMeeting_19 : decode cX8_holdMeeting 19 = .ok (.irem, 1) := by decide +kernel
theorem dX8_holdMeeting_20 : decode cX8_holdMeeting 20 = .ok (.istore_n 2, 1) := by decide +kernel
theorem dX8_holdMeeting_21 : decode cX8_holdMeeting 21 = .ok (.iload_n 2, 1) := by decide +kernel
theorem dX8_holdMeeting_22 : decode cX8_holdMeeting 22 = .ok (.iconst 1, 1) := by decide +kernel
theorem dX8_holdMeeting_23 : decode cX8_holdMeeting 23 = .ok (.iadd, 1) := by decide +kernel
theorem dX8_holdMeeting_24 : decode cX8_holdMeeting 24 = .ok (.aload_n 0, 1) := by decide +kernel
theorem dX8_holdMeeting_25 : decode cX8_holdMeeting 25 = .ok (.invokevirtual 305, 3) := by decide +kernel
theorem dX8_holdMeeting_28 : decode cX8_holdMeeting 28 = .ok (.iload_n 1, 1) := by decide +kernel
theorem dX8_holdMeeting_29 : decode cX8_holdMeeting 29 = .ok (.iconst 1, 1) := by decide +kernel
theorem dX8_holdMeeting_30 : decode cX8_holdMeeting 30 = .ok (.isub, 1) := by decide +kernel
theorem dX8_holdMeeting_31 : decode cX8_holdMeeting 31 = .ok (.irem, 1) := by decide +kernel
theorem dX8_holdMeeting_32 : decode cX8_holdMeeting 32 = .ok (.iadd, 1) := by decide +kernel
theorem dX8_holdMeeting_33 : decode cX8_holdMeeting 33 = .ok (.iload_n 1, 1) := by decide +kernel
theorem dX8_holdMeeting_34 : decode cX8_holdMeeting 34 = .ok (.irem, 1) := by decide +kernel
theorem dX8_holdMeeting_35 : decode cX8_holdMeeting 35 = .ok (.istore_n 3, 1) := by decide +kernel
theorem dX8_holdMeeting_36 : decode cX8_holdMeeting 36 = .ok (.aload_n 0, 1) := by decide +kernel
theorem dX8_holdMeeting_37 : decode cX8_holdMeeting 37 = .ok (.iload_n 3, 1) := by decide +kernel
theorem dX8_holdMeeting_38 : decode cX8_holdMeeting 38 = .ok (.invokevirtual 308, 3) := by decide +kernel
theorem dX8_holdMeeting_41 : decode cX8_holdMeeting 41 = .ok (.istore 4, 2) := by decide +kernel
theorem dX8_holdMeeting_43 : decode cX8_holdMeeting 43 = .ok (.aload_n 0, 1) := by decide +kernel
theorem dX8_holdMeeting_44 : decode cX8_holdMeeting 44 = .ok (.iload_n 2, 1) := by decide +kernel
theorem dX8_holdMeeting_45 : decode cX8_holdMeeting 45 = .ok (.iload 4, 2) := by decide +kernel
theorem dX8_holdMeeting_47 : decode cX8_holdMeeting 47 = .ok (.invokevirtual 311, 3) := by decide +kernel
theorem dX8_holdMeeting_50 : decode cX8_holdMeeting 50 = .ok (.istore 5, 2) := by decide +kernel
theorem dX8_holdMeeting_52 : decode cX8_holdMeeting 52 = .ok (.iload 5, 2) := by decide +kernel
theorem dX8_holdMeeting_54 : decode cX8_holdMeeting 54 = .ok (.bipush (-9), 2) := by decide +kernel
theorem dX8_holdMeeting_56 : decode cX8_holdMeeting 56 = .ok (.if_icmp .eq 21, 3) := by decide +kernel
theorem dX8_holdMeeting_59 : decode cX8_holdMeeting 59 = .ok (.aload_n 0, 1) := by decide +kernel
theorem dX8_holdMeeting_60 : decode cX8_holdMeeting 60 = .ok (.getfield 19, 3) := by decide +kernel
theorem dX8_holdMeeting_63 : decode cX8_holdMeeting 63 = .ok (.iload_n 2, 1) := by decide +kernel
theorem dX8_holdMeeting_64 : decode cX8_holdMeeting 64 = .ok (.iload_n 3, 1) := by decide +kernel
theorem dX8_holdMeeting_65 : decode cX8_holdMeeting 65 = .ok (.iload 5, 2) := by decide +kernel
theorem dX8_holdMeeting_67 : decode cX8_holdMeeting 67 = .ok (.invokevirtual 315, 3) := by decide +kernel
theorem dX8_holdMeeting_70 : decode cX8_holdMeeting 70 = .ok (.ifCond .ne 7, 3) := by decide +kernel
theorem dX8_holdMeeting_73 : decode cX8_holdMeeting 73 = .ok (.bipush (-9), 2) := by decide +kernel
theorem dX8_holdMeeting_75 : decode cX8_holdMeeting 75 = .ok (.istore 5, 2) := by decide +kernel
theorem dX8_holdMeeting_77 : decode cX8_holdMeeting 77 = .ok (.aload_n 0, 1) := by decide +kernel
theorem dX8_holdMeeting_78 : decode cX8_holdMeeting 78 = .ok (.getfield 36, 3) := by decide +kernel
theorem dX8_holdMeeting_81 : decode cX8_holdMeeting 81 = .ok (.iload_n 2, 1) := by decide +kernel
theorem dX8_holdMeeting_82 : decode cX8_holdMeeting 82 = .ok (.iload_n 3, 1) := by decide +kernel
theorem dX8_holdMeeting_83 : decode cX8_holdMeeting 83 = .ok (.iload 4, 2) := by decide +kernel
theorem dX8_holdMeeting_85 : decode cX8_holdMeeting 85 = .ok (.ifCond .eq 7, 3) := by decide +kernel
theorem dX8_holdMeeting_88 : decode cX8_holdMeeting 88 = .ok (.iconst 1, 1) := by decide +kernel
theorem dX8_holdMeeting_89 : decode cX8_holdMeeting 89 = .ok (.goto 4, 3) := by decide +kernel
theorem dX8_holdMeeting_92 : decode cX8_holdMeeting 92 = .ok (.iconst 0, 1) := by decide +kernel
theorem dX8_holdMeeting_93 : decode cX8_holdMeeting 93 = .ok (.iload 5, 2) := by decide +kernel
theorem dX8_holdMeeting_95 : decode cX8_holdMeeting 95 = .ok (.invokevirtual 319, 3) := by decide +kernel
theorem dX8_holdMeeting_98 : decode cX8_holdMeeting 98 = .ok (.return_, 1) := by decide +kernel
theorem iX8_holdMeeting_8 : ∀ w ∈ wsX80, w ∈ wsX8_holdMeeting := fun w h => List.mem_cons_of_mem _ (List.mem_append_left _ (List.mem_append_left _ (List.mem_append_left _ (List.mem_append_left _ (List.mem_append_right _ h)))))
theorem fX8_holdMeeting_19 : FL mX8_holdMeeting 19 8 1 := ⟨_, _, _, rfl, by decide, iX8_holdMeeting_8, by decide +kernel⟩
theorem fX8_holdMeeting_36 : FL mX8_holdMeeting 36 8 4 := ⟨_, _, _, rfl, by decide, iX8_holdMeeting_8, by decide +kernel⟩
theorem fX8_holdMeeting_64 : FL mX8_holdMeeting 64 8 8 := ⟨_, _, _, rfl, by decide, iX8_holdMeeting_8, by decide +kernel⟩
theorem iX8_holdMeeting_6 : ∀ w ∈ wsX60, w ∈ wsX8_holdMeeting := fun w h => List.mem_cons_of_mem _ (List.mem_append_left _ (List.mem_append_left _ (List.mem_append_left _ (List.mem_append_right _ h))))
theorem fX8_holdMeeting_109 : FL mX8_holdMeeting 109 6 4 := ⟨_, _, _, rfl, by decide, iX8_holdMeeting_6, by decide +kernel⟩
set_option maxRecDepth 20000 in
theorem ggX8_holdMeeting_X8_draw : GoodIn wsX8_holdMeeting wsX8_draw := goodIn_r _ [9, 10, 11, 55, 56, 57, 58, 59, 60, 61, 62, 63, 64, 65, 66, 67] (by decide +kernel) (by decide +kernel)
set_option maxRecDepth 20000 in
theorem gX8_holdMeeting_X8_draw : GoodIn wsX8_holdMeeting (wsV RX8 305 RX8 yX8_draw wsX8_draw) := goodIn_app (goodIn_of _ (by decide +kernel)) ggX8_holdMeeting_X8_draw
theorem wX8_holdMeeting_305 : CWV mX8_holdMeeting 305 mX8_draw 0 := ⟨gX8_holdMeeting_X8_draw, ⟨_, rfl⟩, rfl, by decide +kernel, by decide +kernel, by decide +kernel⟩
set_option maxRecDepth 20000 in
theorem ggX8_holdMeeting_X8_looksNow : GoodIn wsX8_holdMeeting wsX8_looksNow := goodIn_r _ [15, 1, 16, 17, 5, 6, 7, 8, 9, 10, 11, 55, 56, 57, 58, 59, 60, 61, 62, 63, 64, 65, 66, 67, 68, 69, 70, 71, 72] (by decide +kernel) (by decide +kernel)
set_option maxRecDepth 20000 in
theorem gX8_holdMeeting_X8_looksNow : GoodIn wsX8_holdMeeting (wsV RX8 308 RX8 yX8_looksNow wsX8_looksNow) := goodIn_app (goodIn_of _ (by decide +kernel)) ggX8_holdMeeting_X8_looksNow
theorem wX8_holdMeeting_308 : CWV mX8_holdMeeting 308 mX8_looksNow 1 := ⟨gX8_holdMeeting_X8_looksNow, ⟨_, rfl⟩, rfl, by decide +kernel, by decide +kernel, by decide +kernel⟩
set_option maxRecDepth 20000 in
theorem ggX8_holdMeeting_X8_weightToPay : GoodIn wsX8_holdMeeting wsX8_weightToPay := goodIn_r _ [21, 22, 1, 23, 3, 24, 25, 26, 27, 28, 29, 30, 31, 32, 33, 34, 35, 55, 56, 57, 58, 59, 60, 61, 62, 63, 64, 65, 66, 67, 68, 69, 70, 71, 72, 73, 74] (by decide +kernel) (by decide +kernel)
set_option maxRecDepth 20000 in
theorem gX8_holdMeeting_X8_weightToPay : GoodIn wsX8_holdMeeting (wsV RX8 311 RX8 yX8_weightToPay wsX8_weightToPay) := goodIn_app (goodIn_of _ (by decide +kernel)) ggX8_holdMeeting_X8_weightToPay
theorem wX8_holdMeeting_311 : CWV mX8_holdMeeting 311 mX8_weightToPay 2 := ⟨gX8_holdMeeting_X8_weightToPay, ⟨_, rfl⟩, rfl, by decide +kernel, by decide +kernel, by decide +kernel⟩
set_option maxRecDepth 20000 in
theorem ggX8_holdMeeting_X4_move : GoodIn wsX8_holdMeeting wsX4_move := goodIn_r _ [39, 40, 31, 32, 33, 34, 35, 41, 42, 43, 44, 74] (by decide +kernel) (by decide +kernel)
set_option maxRecDepth 20000 in
theorem gX8_holdMeeting_X4_move : GoodIn wsX8_holdMeeting (wsV RX8 315 RX4 yX4_move wsX4_move) := goodIn_app (goodIn_of _ (by decide +kernel)) ggX8_holdMeeting_X4_move
theorem wX8_holdMeeting_315 : CWV mX8_holdMeeting 315 mX4_move 3 := ⟨gX8_holdMeeting_X4_move, ⟨_, rfl⟩, rfl, by decide +kernel, by decide +kernel, by decide +kernel⟩
set_option maxRecDepth 20000 in
theorem ggX8_holdMeeting_X3_note : GoodIn wsX8_holdMeeting wsX3_note := goodIn_r _ [49, 50, 51, 52, 53, 54, 75, 76, 77, 78, 79] (by decide +kernel) (by decide +kernel)
set_option maxRecDepth 20000 in
theorem gX8_holdMeeting_X3_note : GoodIn wsX8_holdMeeting (wsV RX8 319 RX3 yX3_note wsX3_note) := goodIn_app (goodIn_of _ (by decide +kernel)) ggX8_holdMeeting_X3_note
theorem wX8_holdMeeting_319 : CWV mX8_holdMeeting 319 mX3_note 4 := ⟨gX8_holdMeeting_X3_note, ⟨_, rfl⟩, rfl, by decide +kernel, by decide +kernel, by decide +kernel⟩
section
variable {Γ : gT} {l : Launch} {as : List Nat} {h : aH} {X T P S U M D L I tw dr : Nat} {lot yr : Int32} {tc : Int64} {aw ax ay ao n pr ur : Nat} {f u w x y o : Nat → Int32}
theorem c_asWay {p : Nat} (hp : p < 8) (hX : hat as h X (xo T P S U M D L I tw dr lot yr tc)) (hP : hat as h P (ob 4 [.ref pr])) (hpr : hat as h pr (aI Γ 80 f)) : Det Γ l mX8_asWay rX8_asWay [.ref X, .int (nI p)] as h (some (.int (pCo f p))) (hset h X (xo T P S U M D L I tw dr lot yr (tc + 1))) := by
  have e1 := hat_oo hP hX (by decide)
  have e2 := hat_ao hpr hX
  refine Con.of (by decide +kernel) rfl rfl (Nat.le_of_ble_eq_true rfl) ?_
  refine q_aload_n dX8_asWay_0 rfl rfl ?_
  refine q_dup dX8_asWay_1 rfl ?_
  refine q_get dX8_asWay_2 fX8_asWay_78 (hX) rfl ?_
  refine q_lconst (v := 1) dX8_asWay_5 rfl ?_
  refine q_ladd dX8_asWay_6 ?_
  refine q_put dX8_asWay_7 pX8_asWay_78 (hX) rfl rfl (Nat.le_of_ble_eq_true rfl) ?_
  refine q_aload_n dX8_asWay_10 rfl rfl ?_
  refine q_get dX8_asWay_11 fX8_asWay_19 (hat_set hX) rfl ?_
  refine q_iload_n dX8_asWay_14 rfl rfl ?_
  refine q_callVd dX8_asWay_15 wX8_asWay_128 (c_coinsOf (hat_ne hP e1) (hat_ne hpr e2) hp) (hat_ne hP e1) ⟨_, _, rfl⟩ rfl rfl (Nat.le_of_ble_eq_true rfl) ⟨⟨Nat.le_of_ble_eq_true rfl, Nat.le_of_ble_eq_true rfl⟩, Nat.le_of_ble_eq_true rfl, Nat.le_of_ble_eq_true rfl⟩ ?_
  exact q_iret dX8_asWay_18 rfl (Nat.zero_le _) (Nat.zero_le _) (⟨rfl, rfl, rfl⟩)
theorem c_asTale {p : Nat} (hp : p < 8) (hX : hat as h X (xo T P S U M D L I tw dr lot yr tc)) (hP : hat as h P (ob 4 [.ref pr])) (hpr : hat as h pr (aI Γ 80 f)) : Det Γ l mX8_asTale rX8_asTale [.ref X, .int (nI p)] as h (some (.int (pCo f p + 1))) (hset h X (xo T P S U M D L I tw dr lot yr (tc + 10 + 1))) := by
  have e1 := hat_oo hP hX (by decide)
  have e2 := hat_ao hpr hX
  refine Con.of (by decide +kernel) rfl rfl (Nat.le_of_ble_eq_true rfl) ?_
  refine q_aload_n dX8_asTale_0 rfl rfl ?_
  refine q_dup dX8_asTale_1 rfl ?_
  refine q_get dX8_asTale_2 fX8_asTale_78 (hX) rfl ?_
  refine q_ldc2 (v := 10) dX8_asTale_5 (by decide +kernel) ?_
  refine q_ladd dX8_asTale_8 ?_
  refine q_put dX8_asTale_9 pX8_asTale_78 (hX) rfl rfl (Nat.le_of_ble_eq_true rfl) ?_
  refine q_aload_n dX8_asTale_12 rfl rfl ?_
  refine q_iload_n dX8_asTale_13 rfl rfl ?_
  refine q_callVd dX8_asTale_14 wX8_asTale_264 (c_asWay hp (hat_set hX) (hat_ne hP e1) (hat_ne hpr e2)) (hat_set hX) ⟨_, _, rfl⟩ rfl rfl (Nat.le_of_ble_eq_true rfl) ⟨⟨Nat.le_of_ble_eq_true rfl, Nat.le_of_ble_eq_true rfl⟩, Nat.le_of_ble_eq_true rfl, Nat.le_of_ble_eq_true rfl⟩ ?_
  refine q_iconst (v := 1) dX8_asTale_17 rfl ?_
  refine q_iadd dX8_asTale_18 ?_
  exact q_iret dX8_asTale_19 rfl (Nat.zero_le _) (Nat.zero_le _) (⟨rfl, rfl, hset_hset⟩)
theorem c_asLook {p lim : Nat} (hp : p < 8) (hlim : lim ≤ 9) (hX : hat as h X (xo T P S U M D L I tw dr lot yr tc)) (hP : hat as h P (ob 4 [.ref pr])) (hpr : hat as h pr (aI Γ 80 f)) (hU : hat as h U (ob 7 [.ref ur])) (hur : hat as h ur (aI Γ 6 u)) (hu : u 0 = nI lim) : Det Γ l mX8_asLook rX8_asLook [.ref X, .int (nI p)] as h (some (.int (pCo f p + u 1 * sr (fun w => f (p * 10 + w)) (lim + 1) (10 - (lim + 1))))) (hset h X (xo T P S U M D L I tw dr lot yr (tc + 100 + 1))) := by
  have e1 := hat_oo hP hX (by decide)
  have e2 := hat_ao hpr hX
  have e3 := hat_oo hU hX (by decide)
  have e4 := hat_ao hur hX
  refine Con.of (by decide +kernel) rfl rfl (Nat.le_of_ble_eq_true rfl) ?_
  refine q_aload_n dX8_asLook_0 rfl rfl ?_
  refine q_dup dX8_asLook_1 rfl ?_
  refine q_get dX8_asLook_2 fX8_asLook_78 (hX) rfl ?_
  refine q_ldc2 (v := 100) dX8_asLook_5 (by decide +kernel) ?_
  refine q_ladd dX8_asLook_8 ?_
  refine q_put dX8_asLook_9 pX8_asLook_78 (hX) rfl rfl (Nat.le_of_ble_eq_true rfl) ?_
  refine q_aload_n dX8_asLook_12 rfl rfl ?_
  refine q_iload_n dX8_asLook_13 rfl rfl ?_
  refine q_callVd dX8_asLook_14 wX8_asLook_264 (c_asWay hp (hat_set hX) (hat_ne hP e1) (hat_ne hpr e2)) (hat_set hX) ⟨_, _, rfl⟩ rfl rfl (Nat.le_of_ble_eq_true rfl) ⟨⟨Nat.le_of_ble_eq_true rfl, Nat.le_of_ble_eq_true rfl⟩, Nat.le_of_ble_eq_true rfl, Nat.le_of_ble_eq_true rfl⟩ ?_
  refine V.hp ?_ hset_hset
  refine q_aload_n dX8_asLook_17 rfl rfl ?_
  refine q_get dX8_asLook_18 fX8_asLook_29 (hat_set hX) rfl ?_
  refine q_iconst (v := 1) dX8_asLook_21 rfl ?_
  refine q_callVd dX8_asLook_22 wX8_asLook_172 (c_of (j := 1) (hat_ne hU e3) (hat_ne hur e4) (by omega)) (hat_ne hU e3) ⟨_, _, rfl⟩ rfl rfl (Nat.le_of_ble_eq_true rfl) ⟨⟨Nat.le_of_ble_eq_true rfl, Nat.le_of_ble_eq_true rfl⟩, Nat.le_of_ble_eq_true rfl, Nat.le_of_ble_eq_true rfl⟩ ?_
  refine q_aload_n dX8_asLook_25 rfl rfl ?_
  refine q_get dX8_asLook_26 fX8_asLook_19 (hat_set hX) rfl ?_
  refine q_iload_n dX8_asLook_29 rfl rfl ?_
  refine q_aload_n dX8_asLook_30 rfl rfl ?_
  refine q_get dX8_asLook_31 fX8_asLook_29 (hat_set hX) rfl ?_
  refine q_iconst (v := 0) dX8_asLook_34 rfl ?_
  refine q_callVd dX8_asLook_35 wX8_asLook_172 (c_of (j := 0) (hat_ne hU e3) (hat_ne hur e4) (by omega)) (hat_ne hU e3) ⟨_, _, rfl⟩ rfl rfl (Nat.le_of_ble_eq_true rfl) ⟨⟨Nat.le_of_ble_eq_true rfl, Nat.le_of_ble_eq_true rfl⟩, Nat.le_of_ble_eq_true rfl, Nat.le_of_ble_eq_true rfl⟩ ?_
  refine q_callVd dX8_asLook_38 wX8_asLook_337 (c_coinsAbove (a := lim + 1) (hat_ne hP e1) (hat_ne hpr e2) hp (by omega) (by rw [hu]; exact nI_s lim)) (hat_ne hP e1) ⟨_, _, rfl⟩ rfl rfl (Nat.le_of_ble_eq_true rfl) ⟨⟨Nat.le_of_ble_eq_true rfl, Nat.le_of_ble_eq_true rfl⟩, Nat.le_of_ble_eq_true rfl, Nat.le_of_ble_eq_true rfl⟩ ?_
  refine q_imul dX8_asLook_41 ?_
  refine q_iadd dX8_asLook_42 ?_
  exact q_iret dX8_asLook_43 rfl (Nat.zero_le _) (Nat.zero_le _) (⟨rfl, rfl, rfl⟩)
theorem c_asSome {p lim : Nat} (hp : p < 8) (hlim : lim ≤ 9) (hX : hat as h X (xo T P S U M D L I tw dr lot yr tc)) (hP : hat as h P (ob 4 [.ref pr])) (hpr : hat as h pr (aI Γ 80 f)) (hU : hat as h U (ob 7 [.ref ur])) (hur : hat as h ur (aI Γ 6 u)) (hu : u 0 = nI lim) (ht : hat as h tw (twn aw ax ay ao n)) (hx : hat as h ax (aI Γ 8 x)) : Det Γ l mX8_asSome rX8_asSome [.ref X, .int (nI p)] as h (some (.int (x p * (pCo f p + u 1 * sr (fun w => f (p * 10 + w)) (lim + 1) (10 - (lim + 1))) / 10))) (hset h X (xo T P S U M D L I tw dr lot yr (tc + 1000 + 100 + 1))) := by
  have e1 := hat_oo hP hX (by decide)
  have e2 := hat_ao hpr hX
  have e3 := hat_oo hU hX (by decide)
  have e4 := hat_ao hur hX
  have e5 := hat_oo ht hX (by decide)
  have e6 := hat_ao hx hX
  refine Con.of (by decide +kernel) rfl rfl (Nat.le_of_ble_eq_true rfl) ?_
  refine q_aload_n dX8_asSome_0 rfl rfl ?_
  refine q_dup dX8_asSome_1 rfl ?_
  refine q_get dX8_asSome_2 fX8_asSome_78 (hX) rfl ?_
  refine q_ldc2 (v := 1000) dX8_asSome_5 (by decide +kernel) ?_
  refine q_ladd dX8_asSome_8 ?_
  refine q_put dX8_asSome_9 pX8_asSome_78 (hX) rfl rfl (Nat.le_of_ble_eq_true rfl) ?_
  refine q_aload_n dX8_asSome_12 rfl rfl ?_
  refine q_get dX8_asSome_13 fX8_asSome_64 (hat_set hX) rfl ?_
  refine q_get dX8_asSome_16 fX8_asSome_119 (hat_ne ht e5) rfl ?_
  refine q_iload_n dX8_asSome_19 rfl rfl ?_
  refine q_iald dX8_asSome_20 (hat_ne hx e6) (in_nI hp (by omega)) ?_
  refine q_aload_n dX8_asSome_21 rfl rfl ?_
  refine q_iload_n dX8_asSome_22 rfl rfl ?_
  refine q_callVd dX8_asSome_23 wX8_asSome_270 (c_asLook hp hlim (hat_set hX) (hat_ne hP e1) (hat_ne hpr e2) (hat_ne hU e3) (hat_ne hur e4) hu) (hat_set hX) ⟨_, _, rfl⟩ rfl rfl (Nat.le_of_ble_eq_true rfl) ⟨⟨Nat.le_of_ble_eq_true rfl, Nat.le_of_ble_eq_true rfl⟩, Nat.le_of_ble_eq_true rfl, Nat.le_of_ble_eq_true rfl⟩ ?_
  refine q_imul dX8_asSome_26 ?_
  refine q_bipush (v := 10) dX8_asSome_27 rfl ?_
  refine q_idiv dX8_asSome_29 ((by decide)) ?_
  exact q_iret dX8_asSome_30 rfl (Nat.zero_le _) (Nat.zero_le _) (⟨by rw [nI_clamp (by omega)], rfl, hset_hset⟩)
theorem c_asPay {p : Nat} (hp : p < 8) (hX : hat as h X (xo T P S U M D L I tw dr lot yr tc)) (hP : hat as h P (ob 4 [.ref pr])) (hpr : hat as h pr (aI Γ 80 f)) : Det Γ l mX8_asPay rX8_asPay [.ref X, .int (nI p)] as h (some (.int (pCo f p - f (p * 10)))) (hset h X (xo T P S U M D L I tw dr lot yr (tc + 10000 + 1))) := by
  have e1 := hat_oo hP hX (by decide)
  have e2 := hat_ao hpr hX
  refine Con.of (by decide +kernel) rfl rfl (Nat.le_of_ble_eq_true rfl) ?_
  refine q_aload_n dX8_asPay_0 rfl rfl ?_
  refine q_dup dX8_asPay_1 rfl ?_
  refine q_get dX8_asPay_2 fX8_asPay_78 (hX) rfl ?_
  refine q_ldc2 (v := 10000) dX8_asPay_5 (by decide +kernel) ?_
  refine q_ladd dX8_asPay_8 ?_
  refine q_put dX8_asPay_9 pX8_asPay_78 (hX) rfl rfl (Nat.le_of_ble_eq_true rfl) ?_
  refine q_aload_n dX8_asPay_12 rfl rfl ?_
  refine q_iload_n dX8_asPay_13 rfl rfl ?_
  refine q_callVd dX8_asPay_14 wX8_asPay_264 (c_asWay hp (hat_set hX) (hat_ne hP e1) (hat_ne hpr e2)) (hat_set hX) ⟨_, _, rfl⟩ rfl rfl (Nat.le_of_ble_eq_true rfl) ⟨⟨Nat.le_of_ble_eq_true rfl, Nat.le_of_ble_eq_true rfl⟩, Nat.le_of_ble_eq_true rfl, Nat.le_of_ble_eq_true rfl⟩ ?_
  refine V.hp ?_ hset_hset
  refine q_aload_n dX8_asPay_17 rfl rfl ?_
  refine q_get dX8_asPay_18 fX8_asPay_19 (hat_set hX) rfl ?_
  refine q_iload_n dX8_asPay_21 rfl rfl ?_
  refine q_iconst (v := 0) dX8_asPay_22 rfl ?_
  refine q_callVd dX8_asPay_23 wX8_asPay_135 (c_held (w := 0) (hat_ne hP e1) (hat_ne hpr e2) hp (by omega)) (hat_ne hP e1) ⟨_, _, rfl⟩ rfl rfl (Nat.le_of_ble_eq_true rfl) ⟨⟨Nat.le_of_ble_eq_true rfl, Nat.le_of_ble_eq_true rfl⟩, Nat.le_of_ble_eq_true rfl, Nat.le_of_ble_eq_true rfl⟩ ?_
  refine q_isub dX8_asPay_26 ?_
  exact q_iret dX8_asPay_27 rfl (Nat.zero_le _) (Nat.zero_le _) (⟨rfl, rfl, rfl⟩)
theorem c_asKeep {p : Nat} (hp : p < 8) (hX : hat as h X (xo T P S U M D L I tw dr lot yr tc)) (hP : hat as h P (ob 4 [.ref pr])) (hpr : hat as h pr (aI Γ 80 f)) : Det Γ l mX8_asKeep rX8_asKeep [.ref X, .int (nI p)] as h (some (.int (2 * (pCo f p - f (p * 10))))) (hset h X (xo T P S U M D L I tw dr lot yr (tc + 100000 + 10000 + 1))) := by
  have e1 := hat_oo hP hX (by decide)
  have e2 := hat_ao hpr hX
  refine Con.of (by decide +kernel) rfl rfl (Nat.le_of_ble_eq_true rfl) ?_
  refine q_aload_n dX8_asKeep_0 rfl rfl ?_
  refine q_dup dX8_asKeep_1 rfl ?_
  refine q_get dX8_asKeep_2 fX8_asKeep_78 (hX) rfl ?_
  refine q_ldc2 (v := 100000) dX8_asKeep_5 (by decide +kernel) ?_
  refine q_ladd dX8_asKeep_8 ?_
  refine q_put dX8_asKeep_9 pX8_asKeep_78 (hX) rfl rfl (Nat.le_of_ble_eq_true rfl) ?_
  refine q_iconst (v := 2) dX8_asKeep_12 rfl ?_
  refine q_aload_n dX8_asKeep_13 rfl rfl ?_
  refine q_iload_n dX8_asKeep_14 rfl rfl ?_
  refine q_callVd dX8_asKeep_15 wX8_asKeep_276 (c_asPay hp (hat_set hX) (hat_ne hP e1) (hat_ne hpr e2)) (hat_set hX) ⟨_, _, rfl⟩ rfl rfl (Nat.le_of_ble_eq_true rfl) ⟨⟨Nat.le_of_ble_eq_true rfl, Nat.le_of_ble_eq_true rfl⟩, Nat.le_of_ble_eq_true rfl, Nat.le_of_ble_eq_true rfl⟩ ?_
  refine q_imul dX8_asKeep_18 ?_
  exact q_iret dX8_asKeep_19 rfl (Nat.zero_le _) (Nat.zero_le _) (⟨rfl, rfl, hset_hset⟩)
theorem c_asClip {p : Nat} (hp : p < 8) (hX : hat as h X (xo T P S U M D L I tw dr lot yr tc)) (hP : hat as h P (ob 4 [.ref pr])) (hpr : hat as h pr (aI Γ 80 f)) (ht : hat as h tw (twn aw ax ay ao n)) (ho : hat as h ao (aI Γ 8 o)) : Det Γ l mX8_asClip rX8_asClip [.ref X, .int (nI p)] as h (some (.int (pCo f p + o p))) (hset h X (xo T P S U M D L I tw dr lot yr (tc + 1000000 + 1))) := by
  have e1 := hat_oo hP hX (by decide)
  have e2 := hat_ao hpr hX
  have e5 := hat_oo ht hX (by decide)
  have e6 := hat_ao ho hX
  refine Con.of (by decide +kernel) rfl rfl (Nat.le_of_ble_eq_true rfl) ?_
  refine q_aload_n dX8_asClip_0 rfl rfl ?_
  refine q_dup dX8_asClip_1 rfl ?_
  refine q_get dX8_asClip_2 fX8_asClip_78 (hX) rfl ?_
  refine q_ldc2 (v := 1000000) dX8_asClip_5 (by decide +kernel) ?_
  refine q_ladd dX8_asClip_8 ?_
  refine q_put dX8_asClip_9 pX8_asClip_78 (hX) rfl rfl (Nat.le_of_ble_eq_true rfl) ?_
  refine q_aload_n dX8_asClip_12 rfl rfl ?_
  refine q_iload_n dX8_asClip_13 rfl rfl ?_
  refine q_callVd dX8_asClip_14 wX8_asClip_264 (c_asWay hp (hat_set hX) (hat_ne hP e1) (hat_ne hpr e2)) (hat_set hX) ⟨_, _, rfl⟩ rfl rfl (Nat.le_of_ble_eq_true rfl) ⟨⟨Nat.le_of_ble_eq_true rfl, Nat.le_of_ble_eq_true rfl⟩, Nat.le_of_ble_eq_true rfl, Nat.le_of_ble_eq_true rfl⟩ ?_
  refine V.hp ?_ hset_hset
  refine q_aload_n dX8_asClip_17 rfl rfl ?_
  refine q_get dX8_asClip_18 fX8_asClip_64 (hat_set hX) rfl ?_
  refine q_get dX8_asClip_21 fX8_asClip_125 (hat_ne ht e5) rfl ?_
  refine q_iload_n dX8_asClip_24 rfl rfl ?_
  refine q_iald dX8_asClip_25 (hat_ne ho e6) (in_nI hp (by omega)) ?_
  refine q_iadd dX8_asClip_26 ?_
  exact q_iret dX8_asClip_27 rfl (Nat.zero_le _) (Nat.zero_le _) (⟨by rw [nI_clamp (by omega)], rfl, rfl⟩)
end
/-! a meeting, as numbers: the lot, the purses, the latest meeting and how many -/
abbrev msT : Type := Int32 × (Nat → Int32) × Int32 × Int32 × Int32 × Int32 × Int32
def mPay (n : Nat) (lot : Int32) : Nat := drw (lotN lot) % n
def mTak (n : Nat) (lot : Int32) : Nat := (mPay n lot + 1 + drw (lotN (lotN lot)) % (n - 1)) % n
def mLook (w x : Nat → Int32) (n : Nat) (lot : Int32) : Bool := if w (mTak n lot) = 2 then decide (nI (drw (lotN (lotN (lotN lot))) % 10) < x (mTak n lot)) else decide (w (mTak n lot) = 1)
def mLot (w : Nat → Int32) (n : Nat) (lot : Int32) : Int32 := if w (mTak n lot) = 2 then lotN (lotN (lotN lot)) else lotN (lotN lot)
def mWt (w x y f : Nat → Int32) (n lim : Nat) (lot : Int32) : Int32 := wtp f (mPay n lot) (if mLook w x n lot then lim else 9) (y (mPay n lot))
def mWk (w x y f : Nat → Int32) (n lim : Nat) (lot : Int32) : Nat := (mWt w x y f n lim lot).toNatClampNeg
/-- whether a coin goes over -/
def mGo (w x y f : Nat → Int32) (n lim : Nat) (lot : Int32) : Prop := ¬ mWt w x y f n lim lot = -9 ∧ f (mTak n lot * 10 + mWk w x y f n lim lot) < 99
def mGoB (w x y f : Nat → Int32) (n lim : Nat) (lot : Int32) : Bool := decide (¬ mWt w x y f n lim lot = -9) && decide (f (mTak n lot * 10 + mWk w x y f n lim lot) < 99)
def mPaid (w x y f : Nat → Int32) (n lim : Nat) (lot : Int32) : Int32 := if mGoB w x y f n lim lot then mWt w x y f n lim lot else -9
def mF (w x y f : Nat → Int32) (n lim : Nat) (lot : Int32) : Nat → Int32 := if mGoB w x y f n lim lot then moveF f (mPay n lot * 10 + mWk w x y f n lim lot) (mTak n lot * 10 + mWk w x y f n lim lot) else f
/-- one meeting -/
def mSt (w x y : Nat → Int32) (n lim : Nat) (s : msT) : msT := (mLot w n s.1, mF w x y s.2.1 n lim s.1, nI (mPay n s.1), nI (mTak n s.1), bI (mLook w x n s.1), mPaid w x y s.2.1 n lim s.1, s.2.2.2.2.2.2 + 1)
theorem mPay_lt {n : Nat} {lot : Int32} (hn : 2 ≤ n) : mPay n lot < n := Nat.mod_lt _ (by omega)
theorem mTak_lt {n : Nat} {lot : Int32} (hn : 2 ≤ n) : mTak n lot < n := Nat.mod_lt _ (by omega)
theorem fstW_in {f : Nat → Int32} {p : Nat} : ∀ d w, fstW f p d w = -9 ∨ ∃ k, w ≤ k ∧ k < w + d ∧ fstW f p d w = nI k := by
  intro d
  induction d with
  | zero => intro w; exact Or.inl rfl
  | succ d ih =>
    intro w
    simp only [fstW]
    by_cases h : f (p * 10 + w) ≤ 0
    · rw [if_pos h]
      rcases ih (w + 1) with h1 | ⟨k, h1, h2, h3⟩
      · exact Or.inl h1
      · exact Or.inr ⟨k, by omega, by omega, h3⟩
    · rw [if_neg h]
      exact Or.inr ⟨w, by omega, by omega, rfl⟩
theorem lstW_in {f : Nat → Int32} {p : Nat} : ∀ k, lstW f p k = -9 ∨ ∃ j, j < k ∧ lstW f p k = nI j := by
  intro k
  induction k with
  | zero => exact Or.inl rfl
  | succ k ih =>
    simp only [lstW]
    by_cases h : f (p * 10 + k) ≤ 0
    · rw [if_pos h]
      rcases ih with h1 | ⟨j, h1, h2⟩
      · exact Or.inl h1
      · exact Or.inr ⟨j, by omega, h2⟩
    · rw [if_neg h]
      exact Or.inr ⟨k, by omega, rfl⟩
theorem wtp_in {f : Nat → Int32} {p most : Nat} {pay : Int32} (hm : most ≤ 9) : wtp f p most pay = -9 ∨ ∃ k, k < 10 ∧ wtp f p most pay = nI k := by
  unfold wtp
  split
  · rcases fstW_in (f := f) (p := p) (most + 1) 0 with h | ⟨k, _, h1, h2⟩
    · exact Or.inl h
    · exact Or.inr ⟨k, by omega, h2⟩
  · rcases lstW_in (f := f) (p := p) (most + 1) with h | ⟨k, h1, h2⟩
    · exact Or.inl h
    · exact Or.inr ⟨k, by omega, h2⟩
theorem mWt_in {w x y f : Nat → Int32} {n lim : Nat} {lot : Int32} (hl : lim ≤ 9) : mWt w x y f n lim lot = -9 ∨ (mWk w x y f n lim lot < 10 ∧ mWt w x y f n lim lot = nI (mWk w x y f n lim lot)) := by
  unfold mWk
  have : mWt w x y f n lim lot = -9 ∨ ∃ k, k < 10 ∧ mWt w x y f n lim lot = nI k := by
    unfold mWt
    split <;> exact wtp_in (by omega)
  rcases this with h | ⟨k, h1, h2⟩
  · exact Or.inl h
  · refine Or.inr ?_
    rw [h2, nI_clamp (by omega)]
    exact ⟨h1, rfl⟩
section
variable {Γ : gT} {l : Launch} {as : List Nat} {h : aH} {X T P S U M D L I tw dr : Nat} {lot yr : Int32} {tc : Int64} {aw ax ay ao n pr ur lim : Nat} {f u w x y o : Nat → Int32} {x0 x1 x2 x3 x4 : Int32}
/-- the object, the purses and the latest meeting -/
def mH (Γ : gT) (X T P S U M D L I tw dr pr : Nat) (yr : Int32) (tc : Int64) (h : aH) (s : msT) : aH := hset (hset (hset h X (xo T P S U M D L I tw dr s.1 yr tc)) pr (aI Γ 80 s.2.1)) M (ob 3 [.int s.2.2.1, .int s.2.2.2.1, .int s.2.2.2.2.1, .int s.2.2.2.2.2.1, .int s.2.2.2.2.2.2])
theorem c_holdMeeting (hn : 2 ≤ n) (hn8 : n ≤ 8) (hlim : lim ≤ 9) (hX : hat as h X (xo T P S U M D L I tw dr lot yr tc)) (hP : hat as h P (ob 4 [.ref pr])) (hpr : hat as h pr (aI Γ 80 f)) (hU : hat as h U (ob 7 [.ref ur])) (hur : hat as h ur (aI Γ 6 u)) (hu : u 0 = nI lim) (hM : hat as h M (ob 3 [.int x0, .int x1, .int x2, .int x3, .int x4])) (ht : hat as h tw (twn aw ax ay ao n)) (hw : hat as h aw (aI Γ 8 w)) (hx : hat as h ax (aI Γ 8 x)) (hy : hat as h ay (aI Γ 8 y)) : Det Γ l mX8_holdMeeting rX8_holdMeeting [.ref X] as h none (mH Γ X T P S U M D L I tw dr pr yr tc h (mSt w x y n lim (lot, f, x0, x1, x2, x3, x4))) := by
  have e1 := hat_oo hP hX (by decide)
  have e2 := hat_ao hpr hX
  have e3 := hat_oo hU hX (by decide)
  have e4 := hat_ao hur hX
  have e5 := hat_oo ht hX (by decide)
  have e6 := hat_ao hw hX
  have e7 := hat_ao hx hX
  have e8 := hat_ao hy hX
  have e9 := hat_oo hM hX (by decide)
  have e10 := hat_oa hM hpr
  have hp := mPay_lt (lot := lot) hn
  have htk := mTak_lt (lot := lot) hn
  have key : V Γ l mX8_holdMeeting rX8_holdMeeting (Zm Γ rX8_holdMeeting (qD none as (mH Γ X T P S U M D L I tw dr pr yr tc h (mSt w x y n lim (lot, f, x0, x1, x2, x3, x4))))) 0 0 43 [(0, .ref X), (2, .int (nI (mPay n lot))), (3, .int (nI (mTak n lot))), (4, .int (bI (mLook w x n lot)))] [] as (hset h X (xo T P S U M D L I tw dr (mLot w n lot) yr tc)) := by
    have fin : V Γ l mX8_holdMeeting rX8_holdMeeting (Zm Γ rX8_holdMeeting (qD none as (mH Γ X T P S U M D L I tw dr pr yr tc h (mSt w x y n lim (lot, f, x0, x1, x2, x3, x4))))) 0 0 77 [(0, .ref X), (2, .int (nI (mPay n lot))), (3, .int (nI (mTak n lot))), (4, .int (bI (mLook w x n lot))), (5, .int (mPaid w x y f n lim lot))] [] as (hset (hset h X (xo T P S U M D L I tw dr (mLot w n lot) yr tc)) pr (aI Γ 80 (mF w x y f n lim lot))) := by
      have c1 := hat_ne (e' := aI Γ 80 (mF w x y f n lim lot)) (hat_set (e' := xo T P S U M D L I tw dr (mLot w n lot) yr tc) hX) e2.symm
      have c2 := hat_ne (e' := aI Γ 80 (mF w x y f n lim lot)) (hat_ne (e' := xo T P S U M D L I tw dr (mLot w n lot) yr tc) hM e9) e10
      have fin2 : ∀ z : Int32, z = bI (mLook w x n lot) → V Γ l mX8_holdMeeting rX8_holdMeeting (Zm Γ rX8_holdMeeting (qD none as (mH Γ X T P S U M D L I tw dr pr yr tc h (mSt w x y n lim (lot, f, x0, x1, x2, x3, x4))))) 0 0 93 [(0, .ref X), (2, .int (nI (mPay n lot))), (3, .int (nI (mTak n lot))), (4, .int (bI (mLook w x n lot))), (5, .int (mPaid w x y f n lim lot))] [.int z, .int (nI (mTak n lot)), .int (nI (mPay n lot)), .ref M] as (hset (hset h X (xo T P S U M D L I tw dr (mLot w n lot) yr tc)) pr (aI Γ 80 (mF w x y f n lim lot))) := by
        intro z hz
        subst hz
        refine q_iload dX8_holdMeeting_93 rfl ?_
        refine q_callVd dX8_holdMeeting_95 wX8_holdMeeting_319 (c_note c2) (c2) ⟨_, _, rfl⟩ rfl rfl (Nat.le_of_ble_eq_true rfl) ⟨⟨Nat.le_of_ble_eq_true rfl, Nat.le_of_ble_eq_true rfl⟩, Nat.le_of_ble_eq_true rfl, Nat.le_of_ble_eq_true rfl⟩ ?_
        exact q_vret dX8_holdMeeting_98 rfl (Nat.zero_le _) (Nat.zero_le _) (⟨rfl, rfl, rfl⟩)
      refine q_aload_n dX8_holdMeeting_77 rfl rfl ?_
      refine q_get dX8_holdMeeting_78 fX8_holdMeeting_36 (c1) rfl ?_
      refine q_iload_n dX8_holdMeeting_81 rfl rfl ?_
      refine q_iload_n dX8_holdMeeting_82 rfl rfl ?_
      refine q_iload dX8_holdMeeting_83 rfl ?_
      refine q_if_eq 92 dX8_holdMeeting_85 (by decide) (fun cL => ?_) (fun cL => ?_)
      · refine q_iconst (v := 0) dX8_holdMeeting_92 rfl ?_
        exact V.at (fin2 0 cL.symm) ⟨rfl, rfl, rfl, rfl, rfl, trivial⟩
      · refine q_iconst (v := 1) dX8_holdMeeting_88 rfl ?_
        refine q_goto 93 dX8_holdMeeting_89 (by decide) ?_
        exact V.at (fin2 1 (by rw [bI_n.mp cL]; rfl)) ⟨rfl, rfl, rfl, rfl, rfl, trivial⟩
    have no : mGoB w x y f n lim lot = false → V Γ l mX8_holdMeeting rX8_holdMeeting (Zm Γ rX8_holdMeeting (qD none as (mH Γ X T P S U M D L I tw dr pr yr tc h (mSt w x y n lim (lot, f, x0, x1, x2, x3, x4))))) 0 0 77 [(0, .ref X), (2, .int (nI (mPay n lot))), (3, .int (nI (mTak n lot))), (4, .int (bI (mLook w x n lot))), (5, .int (-9))] [] as (hset h X (xo T P S U M D L I tw dr (mLot w n lot) yr tc)) := by
      intro hg
      have e : mPaid w x y f n lim lot = -9 := by unfold mPaid; rw [if_neg (by rw [hg]; decide)]
      have e' : mF w x y f n lim lot = f := by unfold mF; rw [if_neg (by rw [hg]; decide)]
      rw [e, e', hset_same (h := hset h X (xo T P S U M D L I tw dr (mLot w n lot) yr tc)) (by rw [hset_ne e2]; exact hpr.2)] at fin
      exact fin
    have yes : ¬ mWt w x y f n lim lot = -9 → mWt w x y f n lim lot = nI (mWk w x y f n lim lot) → f (mTak n lot * 10 + mWk w x y f n lim lot) < 99 → V Γ l mX8_holdMeeting rX8_holdMeeting (Zm Γ rX8_holdMeeting (qD none as (mH Γ X T P S U M D L I tw dr pr yr tc h (mSt w x y n lim (lot, f, x0, x1, x2, x3, x4))))) 0 0 77 [(0, .ref X), (2, .int (nI (mPay n lot))), (3, .int (nI (mTak n lot))), (4, .int (bI (mLook w x n lot))), (5, .int (nI (mWk w x y f n lim lot)))] [] as (if f (mTak n lot * 10 + mWk w x y f n lim lot) < 99 then hset (hset h X (xo T P S U M D L I tw dr (mLot w n lot) yr tc)) pr (aI Γ 80 (moveF f (mPay n lot * 10 + mWk w x y f n lim lot) (mTak n lot * 10 + mWk w x y f n lim lot))) else hset h X (xo T P S U M D L I tw dr (mLot w n lot) yr tc)) := by
      intro h1 h2 h3
      have hg : mGoB w x y f n lim lot = true := by unfold mGoB; rw [decide_eq_true h1, decide_eq_true h3]; rfl
      have e : mPaid w x y f n lim lot = nI (mWk w x y f n lim lot) := by unfold mPaid; rw [if_pos hg, h2]
      have e' : mF w x y f n lim lot = moveF f (mPay n lot * 10 + mWk w x y f n lim lot) (mTak n lot * 10 + mWk w x y f n lim lot) := by unfold mF; rw [if_pos hg]
      rw [e, e'] at fin
      rw [if_pos h3]
      exact fin
    refine q_aload_n dX8_holdMeeting_43 rfl rfl ?_
    refine q_iload_n dX8_holdMeeting_44 rfl rfl ?_
    refine q_iload dX8_holdMeeting_45 rfl ?_
    refine q_callVd dX8_holdMeeting_47 wX8_holdMeeting_311 (c_weightToPay (Nat.lt_of_lt_of_le hp hn8) hlim (hat_set hX) (hat_ne hP e1) (hat_ne hpr e2) (hat_ne hU e3) (hat_ne hur e4) hu (hat_ne ht e5) (hat_ne hy e8)) (hat_set hX) ⟨_, _, rfl⟩ rfl rfl (Nat.le_of_ble_eq_true rfl) ⟨⟨Nat.le_of_ble_eq_true rfl, Nat.le_of_ble_eq_true rfl⟩, Nat.le_of_ble_eq_true rfl, Nat.le_of_ble_eq_true rfl⟩ ?_
    refine q_istore dX8_holdMeeting_50 (by decide) ?_
    refine q_iload dX8_holdMeeting_52 rfl ?_
    refine q_bipush (v := (-9)) dX8_holdMeeting_54 rfl ?_
    refine q_icmp_eq 77 dX8_holdMeeting_56 (by decide) (fun cA => ?_) (fun cA => ?_)
    · first
      | exact V.at (no (by unfold mGoB; rw [decide_eq_false (fun z => z cA), Bool.false_and])) ⟨rfl, rfl, rfl, rfl, by rw [show wtp f (mPay n lot) (if mLook w x n lot then lim else 9) (y (mPay n lot)) = -9 from cA]; rfl, trivial⟩
      | exact V.at (yes cA hk.2 (by by_cases z : f (mTak n lot * 10 + mWk w x y f n lim lot) < 99; exact z; rw [if_neg z] at cB; exact absurd rfl cB)) ⟨rfl, rfl, rfl, rfl, rfl, trivial⟩
    · have hk := (mWt_in (w := w) (x := x) (y := y) (f := f) (n := n) (lot := lot) hlim).resolve_left cA
      refine V.at (ls' := [(0, .ref X), (2, .int (nI (mPay n lot))), (3, .int (nI (mTak n lot))), (4, .int (bI (mLook w x n lot))), (5, .int (nI (mWk w x y f n lim lot)))]) ?_ ⟨rfl, rfl, rfl, rfl, by rw [← hk.2]; rfl, trivial⟩
      refine q_aload_n dX8_holdMeeting_59 rfl rfl ?_
      refine q_get dX8_holdMeeting_60 fX8_holdMeeting_19 (hat_set hX) rfl ?_
      refine q_iload_n dX8_holdMeeting_63 rfl rfl ?_
      refine q_iload_n dX8_holdMeeting_64 rfl rfl ?_
      refine q_iload dX8_holdMeeting_65 rfl ?_
      refine q_callVd dX8_holdMeeting_67 wX8_holdMeeting_315 (c_move (hat_ne hP e1) (hat_ne hpr e2) (Nat.lt_of_lt_of_le hp hn8) (Nat.lt_of_lt_of_le htk hn8) hk.1) (hat_ne hP e1) ⟨_, _, rfl⟩ rfl rfl (Nat.le_of_ble_eq_true rfl) ⟨⟨Nat.le_of_ble_eq_true rfl, Nat.le_of_ble_eq_true rfl⟩, Nat.le_of_ble_eq_true rfl, Nat.le_of_ble_eq_true rfl⟩ ?_
      refine q_if_ne 77 dX8_holdMeeting_70 (by decide) (fun cB => ?_) (fun cB => ?_)
      · first
        | exact V.at (no (by unfold mGoB; rw [decide_eq_false (fun z => z cA), Bool.false_and])) ⟨rfl, rfl, rfl, rfl, by rw [show wtp f (mPay n lot) (if mLook w x n lot then lim else 9) (y (mPay n lot)) = -9 from cA]; rfl, trivial⟩
        | exact V.at (yes cA hk.2 (by by_cases z : f (mTak n lot * 10 + mWk w x y f n lim lot) < 99; exact z; rw [if_neg z] at cB; exact absurd rfl cB)) ⟨rfl, rfl, rfl, rfl, rfl, trivial⟩
      · have hg : ¬ f (mTak n lot * 10 + mWk w x y f n lim lot) < 99 := by
          intro z
          rw [if_pos z] at cB
          exact absurd cB (by decide)
        rw [if_neg hg]
        refine q_bipush (v := (-9)) dX8_holdMeeting_73 rfl ?_
        refine q_istore dX8_holdMeeting_75 (by decide) ?_
        exact V.at (no (by unfold mGoB; rw [decide_eq_false hg, Bool.and_false])) ⟨rfl, rfl, rfl, rfl, rfl, trivial⟩
  have b1 : drw (lotN lot) < 2 ^ 31 := Nat.lt_of_lt_of_le (drw_lt _) (by decide)
  have b2 : drw (lotN (lotN lot)) < 2 ^ 31 := Nat.lt_of_lt_of_le (drw_lt _) (by decide)
  have b3 : drw (lotN (lotN lot)) % (n - 1) < n - 1 := Nat.mod_lt _ (by omega)
  refine Con.of (by decide +kernel) rfl rfl (Nat.le_of_ble_eq_true rfl) ?_
  refine q_aload_n dX8_holdMeeting_0 rfl rfl ?_
  refine q_get dX8_holdMeeting_1 fX8_holdMeeting_64 (hX) rfl ?_
  refine q_get dX8_holdMeeting_4 fX8_holdMeeting_109 (ht) rfl ?_
  refine q_istore_n dX8_holdMeeting_7 rfl (by decide) ?_
  refine q_iload_n dX8_holdMeeting_8 rfl rfl ?_
  refine q_iconst (v := 2) dX8_holdMeeting_9 rfl ?_
  refine q_icmp_ge 14 dX8_holdMeeting_10 (by decide) (fun _ => ?_) (fun z => absurd (nI_le (a := 2) hn (by omega)) z)
  refine q_aload_n dX8_holdMeeting_14 rfl rfl ?_
  refine q_callVd dX8_holdMeeting_15 wX8_holdMeeting_305 (c_draw hX) (hX) ⟨_, _, rfl⟩ rfl rfl (Nat.le_of_ble_eq_true rfl) ⟨⟨Nat.le_of_ble_eq_true rfl, Nat.le_of_ble_eq_true rfl⟩, Nat.le_of_ble_eq_true rfl, Nat.le_of_ble_eq_true rfl⟩ ?_
  refine q_iload_n dX8_holdMeeting_18 rfl rfl ?_
  refine q_irem dX8_holdMeeting_19 (nI_ne0 (by omega) (by omega)) ?_
  rw [pk_rem b1 (by omega) (by omega), show drw (lotN lot) % n = mPay n lot from rfl]
  refine q_istore_n dX8_holdMeeting_20 rfl (by decide) ?_
  refine q_iload_n dX8_holdMeeting_21 rfl rfl ?_
  refine q_iconst (v := 1) dX8_holdMeeting_22 rfl ?_
  refine q_iadd dX8_holdMeeting_23 ?_
  refine q_aload_n dX8_holdMeeting_24 rfl rfl ?_
  rw [nI_s]
  refine q_callVd dX8_holdMeeting_25 wX8_holdMeeting_305 (c_draw (hat_set hX)) (hat_set hX) ⟨_, _, rfl⟩ rfl rfl (Nat.le_of_ble_eq_true rfl) ⟨⟨Nat.le_of_ble_eq_true rfl, Nat.le_of_ble_eq_true rfl⟩, Nat.le_of_ble_eq_true rfl, Nat.le_of_ble_eq_true rfl⟩ ?_
  refine V.hp ?_ hset_hset
  refine q_iload_n dX8_holdMeeting_28 rfl rfl ?_
  refine q_iconst (v := 1) dX8_holdMeeting_29 rfl ?_
  refine q_isub dX8_holdMeeting_30 ?_
  rw [show nI n - 1 = nI (n - 1) from pk_sub (b := 1) (by omega)]
  refine q_irem dX8_holdMeeting_31 (nI_ne0 (by omega) (by omega)) ?_
  rw [pk_rem b2 (by omega) (by omega)]
  refine q_iadd dX8_holdMeeting_32 ?_
  refine q_iload_n dX8_holdMeeting_33 rfl rfl ?_
  rw [nI_add]
  refine q_irem dX8_holdMeeting_34 (nI_ne0 (by omega) (by omega)) ?_
  rw [pk_rem (by omega) (by omega) (by omega), show (mPay n lot + 1 + drw (lotN (lotN lot)) % (n - 1)) % n = mTak n lot from rfl]
  refine q_istore_n dX8_holdMeeting_35 rfl (by decide) ?_
  refine q_aload_n dX8_holdMeeting_36 rfl rfl ?_
  refine q_iload_n dX8_holdMeeting_37 rfl rfl ?_
  refine q_callVd dX8_holdMeeting_38 wX8_holdMeeting_308 (c_looksNow (Nat.lt_of_lt_of_le htk hn8) (hat_set hX) (hat_ne ht e5) (hat_ne hw e6) (hat_ne hx e7)) (hat_set hX) ⟨_, _, rfl⟩ rfl rfl (Nat.le_of_ble_eq_true rfl) ⟨⟨Nat.le_of_ble_eq_true rfl, Nat.le_of_ble_eq_true rfl⟩, Nat.le_of_ble_eq_true rfl, Nat.le_of_ble_eq_true rfl⟩ ?_
  refine q_istore dX8_holdMeeting_41 (by decide) ?_
  refine V.hp (h' := hset h X (xo T P S U M D L I tw dr (mLot w n lot) yr tc)) (V.at key ⟨rfl, rfl, rfl, ?_, trivial⟩) ?_
  · show some (Value.int _) = some (Value.int _)
    unfold mLook
    split <;> rfl
  · unfold mLot
    split
    · exact hset_hset
    · rfl
end

