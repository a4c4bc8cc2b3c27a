/-! String constants: length() and charAt() of the five words -/
section Rules4
variable {Γ : gT} {l : Launch} {μ : mT} {R : Room} {Z : zT} {kc ks pc : Nat} {ls : List (Nat × Value)} {st : List Value} {as : List Nat} {h : aH}
theorem q_ldcS {i : Nat} (hi : i < 5) (hd : decode μ.2.2.1 pc = .ok (.ldc (sIdx i), 2)) (hown : μ.2.1 = "LightCoins$Text") (k : V Γ l μ R Z kc ks (pc + 2) ls (.ref (gX Γ (1010 + i)) :: st) as h) : V Γ l μ R Z kc ks pc ls st as h := by
  intro p e s m args below meth c H locs lsA C ho hP hS hl
  exact va_ldcS C.1 C.2.1 (by rw [← hown]; exact C.2.2.2.2.1) (C.2.2.2.2.2.2.2.2.2.1.2.2.2.2.2.2.2.2.1 i hi) hd (k p e s m args below meth c H locs lsA C ho hP hS hl)
theorem q_getS {index q : Nat} {n d : String} {v : Value} (hd : decode μ.2.2.1 pc = .ok (.getfield index, 3)) (hE : ∀ (U : State) (H : Heap), EXT Γ U H → va_OF "java/lang/String" n d v q (gA Γ) U H) (hw : Cond.fieldLink μ.2.1 index "java/lang/String" n d ∈ μ.2.2.2.2.2) (k : V Γ l μ R Z kc ks (pc + 3) ls (v :: st) as h) : V Γ l μ R Z kc ks pc ls (.ref q :: st) as h := by
  intro p e s m args below meth c H locs lsA C ho hP hS hl
  exact vk_getf C.1 C.2.1 (hE _ _ C.2.2.2.2.2.2.2.2.2.1) hS C.2.2.2.2.1 (C.2.2.2.2.2.1 _ hw) (fun _ z => z) hd (k p e s m args below meth c H locs lsA C ho hP hS hl)
theorem q_tb {t N : Nat} {f : Nat → Value} {i : Int32} {v : Value} (hd : decode μ.2.2.1 pc = .ok (.baload, 1)) (hT : ∀ (U : State) (H : Heap), EXT Γ U H → va_T .byte t N f (gA Γ) U H) (hin : vp_in i N) (hv : f i.toNatClampNeg = v) (k : V Γ l μ R Z kc ks (pc + 1) ls (v :: st) as h) : V Γ l μ R Z kc ks pc ls (.int i :: .ref t :: st) as h := by
  intro p e s m args below meth c H locs lsA C ho hP hS hl
  exact va_tb C.1 C.2.1 (hT _ _ C.2.2.2.2.2.2.2.2.2.1) hS hin hv hd (k p e s m args below meth c H locs lsA C ho hP hS hl)
theorem q_tlenB {t N : Nat} {f : Nat → Value} {v : Int32} (hd : decode μ.2.2.1 pc = .ok (.arraylength, 1)) (hT : ∀ (U : State) (H : Heap), EXT Γ U H → va_T .byte t N f (gA Γ) U H) (hv : Int32.ofNat N = v) (k : V Γ l μ R Z kc ks (pc + 1) ls (.int v :: st) as h) : V Γ l μ R Z kc ks pc ls (.ref t :: st) as h := by
  intro p e s m args below meth c H locs lsA C ho hP hS hl
  exact va_tlen C.1 C.2.1 (hT _ _ C.2.2.2.2.2.2.2.2.2.1) hS hv hd (k p e s m args below meth c H locs lsA C ho hP hS hl)
theorem q_getsZ {index : Nat} {C n d : String} (hd : decode μ.2.2.1 pc = .ok (.getstatic index, 3)) (hZ : ∀ (U : State) (H : Heap), EXT Γ U H → va_Zq C n d (gA Γ) U H) (hw : Cond.fieldLink μ.2.1 index C n d ∈ μ.2.2.2.2.2) (k0 : V Γ l μ R Z kc ks (pc + 3) ls (.null :: st) as h) (k : ∀ t : Nat, V Γ l μ R Z kc ks (pc + 3) ls (.ref t :: st) as h) : V Γ l μ R Z kc ks pc ls st as h := by
  intro p e s m args below meth c H locs lsA C ho hP hS hl
  rcases hZ _ _ C.2.2.2.2.2.2.2.2.2.1 with hz | ⟨t, hz⟩
  · exact va_gets C.1 C.2.1 hz hS C.2.2.2.2.1 (C.2.2.2.2.2.1 _ hw) (fun _ z => z) hd (k0 p e s m args below meth c H locs lsA C ho hP hS hl)
  · exact va_gets C.1 C.2.1 hz hS C.2.2.2.2.1 (C.2.2.2.2.2.1 _ hw) (fun _ z => z) hd (k t p e s m args below meth c H locs lsA C ho hP hS hl)
theorem q_i2c {x : Int32} (hd : decode μ.2.2.1 pc = .ok (.i2c, 1)) (k : V Γ l μ R Z kc ks (pc + 1) ls (.int (x.toUInt32 % 65536).toInt32 :: st) as h) : V Γ l μ R Z kc ks pc ls (.int x :: st) as h := by
  intro p e s m args below meth c H locs lsA C ho hP hS hl
  exact lv_i2c C.1 C.2.1 hd rfl (k p e s m args below meth c H locs lsA C ho hP hS hl)
/-- a call on one of the five words -/
theorem q_callW {index na i : Nat} {μ' : mT} {fr lo : Nat} {As : List Value} {r0 : Option Value} {h0 : aH} {st0 : List Value} (hi : i < 5) (hd : decode μ.2.2.1 pc = .ok (.invokevirtual index, 3)) (cw : CWV μ index μ' na) (hM : Det Γ l μ' { frames := fr, cells := 0, slots := 0, locals := lo } (.ref (gX Γ (1010 + i)) :: As) as h r0 h0) (hci : μ'.2.1 = "java/lang/String") (hna : As.length = na) (hst : st0 = As.reverse ++ .ref (gX Γ (1010 + i)) :: st) (hcat : (st.map fun v => v.category).sum ≤ 8) (hR : fitR R μ' { frames := fr, cells := 0, slots := 0, locals := lo } kc ks)
    (k : V Γ l μ R Z kc ks (pc + 3) ls (r0.toList ++ st) as h0) : V Γ l μ R Z kc ks pc ls st0 as h := by
  refine q_run (Q' := qD r0 as h0) (mc := 0) (ms := 0) (st := st) ?_ (fun r as' h' q => by obtain ⟨rfl, rfl, rfl⟩ := q; exact k)
  intro p e s m args below meth c H locs lsA C ho hP hS hl
  obtain ⟨hG, ⟨ws', hw⟩, hd1, hd2, hd3, hd4⟩ := cw
  exact ⟨_, va_runV (As := As) (rest := st) ⟨C.1, C.2.1, C.2.2.2.1, C.2.2.2.2.1, C.2.2.2.2.2.1⟩ hM (cwV na C.2.2.2.2.2.1 hG hw rfl rfl ⟨hd1, hd2, hd3, hd4⟩ hR.1) ⟨PcD_blind, by rw [hci]; exact vk_recv (adK := fun i => gX Γ (1010 + i)) (i := i) C.2.2.2.2.2.2.2.2.2.1.2.2.2.2.2.2.1 hi hS, pre_of C ho hP hS⟩ rfl hna hl.1 hst (lv_room hcat) hd hR.2⟩
end Rules4
abbrev mJ0_coder_7d493 : mT := (yJ0_coder_7d493, RJ0, cJ0_coder_7d493, 1, (some .byte), wsJ0_coder_7d493)
abbrev rJ0_coder_7d493 : Room := { frames := 0, cells := 0, slots := 0, locals := 0 }
theorem dJ0_coder_7d493_0 : decode cJ0_coder_7d493 0 = .ok (.getstatic 38, 3) := by decide +kernel
theorem dJ0_coder_7d493_3 : decode cJ0_coder_7d493 3 = .ok (.ifCond .eq 10, 3) := by decide +kernel
theorem dJ0_coder_7d493_6 : decode cJ0_coder_7d493 6 = .ok (.aload_n 0, 1) := by decide +kernel
theorem dJ0_coder_7d493_7 : decode cJ0_coder_7d493 7 = .ok (.getfield 15, 3) := by decide +kernel
theorem dJ0_coder_7d493_10 : decode cJ0_coder_7d493 10 = .ok (.goto 4, 3) := by decide +kernel
theorem dJ0_coder_7d493_13 : decode cJ0_coder_7d493 13 = .ok (.iconst 1, 1) := by decide +kernel
theorem dJ0_coder_7d493_14 : decode cJ0_coder_7d493 14 = .ok (.ireturn, 1) := by decide +kernel
abbrev mJ0_length_8abf5 : mT := (yJ0_length_8abf5, RJ0, cJ0_length_8abf5, 1, (some .int), wsJ0_length_8abf5)
abbrev rJ0_length_8abf5 : Room := { frames := 1, cells := 0, slots := 0, locals := 20 }
theorem dJ0_length_8abf5_0 : decode cJ0_length_8abf5 0 = .ok (.aload_n 0, 1) := by decide +kernel
theorem dJ0_length_8abf5_1 : decode cJ0_length_8abf5 1 = .ok (.getfield 9, 3) := by decide +kernel
theorem dJ0_length_8abf5_4 : decode cJ0_length_8abf5 4 = .ok (.arraylength, 1) := by decide +kernel
theorem dJ0_length_8abf5_5 : decode cJ0_length_8abf5 5 = .ok (.aload_n 0, 1) := by decide +kernel
theorem dJ0_length_8abf5_6 : decode cJ0_length_8abf5 6 = .ok (.invokevirtual 335, 3) := by decide +kernel
theorem dJ0_length_8abf5_9 : decode cJ0_length_8abf5 9 = .ok (.ishr, 1) := by decide +kernel
theorem dJ0_length_8abf5_10 : decode cJ0_length_8abf5 10 = .ok (.ireturn, 1) := by decide +kernel
set_option maxRecDepth 20000 in
theorem ggJ0_length_8abf5_J0_coder_7d493 : GoodIn wsJ0_length_8abf5 wsJ0_coder_7d493 := goodIn_r _ [6, 7, 8] (by decide +kernel) (by decide +kernel)
set_option maxRecDepth 20000 in
theorem gJ0_length_8abf5_J0_coder_7d493 : GoodIn wsJ0_length_8abf5 (wsV RJ0 335 RJ0 yJ0_coder_7d493 wsJ0_coder_7d493) := goodIn_app (goodIn_of _ (by decide +kernel)) ggJ0_length_8abf5_J0_coder_7d493
theorem wJ0_length_8abf5_335 : CWV mJ0_length_8abf5 335 mJ0_coder_7d493 0 := ⟨gJ0_length_8abf5_J0_coder_7d493, ⟨_, rfl⟩, rfl, by decide +kernel, by decide +kernel, by decide +kernel⟩
abbrev mJ0_isLatin1_aae02 : mT := (yJ0_isLatin1_aae02, RJ0, cJ0_isLatin1_aae02, 1, (some .boolean), wsJ0_isLatin1_aae02)
abbrev rJ0_isLatin1_aae02 : Room := { frames := 0, cells := 0, slots := 0, locals := 0 }
theorem dJ0_isLatin1_aae02_0 : decode cJ0_isLatin1_aae02 0 = .ok (.getstatic 38, 3) := by decide +kernel
theorem dJ0_isLatin1_aae02_3 : decode cJ0_isLatin1_aae02 3 = .ok (.ifCond .eq 14, 3) := by decide +kernel
theorem dJ0_isLatin1_aae02_6 : decode cJ0_isLatin1_aae02 6 = .ok (.aload_n 0, 1) := by decide +kernel
theorem dJ0_isLatin1_aae02_7 : decode cJ0_isLatin1_aae02 7 = .ok (.getfield 15, 3) := by decide +kernel
theorem dJ0_isLatin1_aae02_10 : decode cJ0_isLatin1_aae02 10 = .ok (.ifCond .ne 7, 3) := by decide +kernel
theorem dJ0_isLatin1_aae02_13 : decode cJ0_isLatin1_aae02 13 = .ok (.iconst 1, 1) := by decide +kernel
theorem dJ0_isLatin1_aae02_14 : decode cJ0_isLatin1_aae02 14 = .ok (.goto 4, 3) := by decide +kernel
theorem dJ0_isLatin1_aae02_17 : decode cJ0_isLatin1_aae02 17 = .ok (.iconst 0, 1) := by decide +kernel
theorem dJ0_isLatin1_aae02_18 : decode cJ0_isLatin1_aae02 18 = .ok (.ireturn, 1) := by decide +kernel
abbrev mJ3_checkIndex_8e157 : mT := (yJ3_checkIndex_8e157, RJ3, cJ3_checkIndex_8e157, 3, (some .int), wsJ3_checkIndex_8e157)
abbrev rJ3_checkIndex_8e157 : Room := { frames := 1, cells := 0, slots := 0, locals := 40 }
theorem dJ3_checkIndex_8e157_0 : decode cJ3_checkIndex_8e157 0 = .ok (.iload_n 0, 1) := by decide +kernel
theorem dJ3_checkIndex_8e157_1 : decode cJ3_checkIndex_8e157 1 = .ok (.ifCond .lt 8, 3) := by decide +kernel
theorem dJ3_checkIndex_8e157_4 : decode cJ3_checkIndex_8e157 4 = .ok (.iload_n 0, 1) := by decide +kernel
theorem dJ3_checkIndex_8e157_5 : decode cJ3_checkIndex_8e157 5 = .ok (.iload_n 1, 1) := by decide +kernel
theorem dJ3_checkIndex_8e157_6 : decode cJ3_checkIndex_8e157 6 = .ok (.if_icmp .lt 10, 3) := by decide +kernel
theorem dJ3_checkIndex_8e157_9 : decode cJ3_checkIndex_8e157 9 = .ok (.aload_n 2, 1) := by decide +kernel
theorem dJ3_checkIndex_8e157_10 : decode cJ3_checkIndex_8e157 10 = .ok (.iload_n 0, 1) := by decide +kernel
theorem dJ3_checkIndex_8e157_11 : decode cJ3_checkIndex_8e157 11 = .ok (.iload_n 1, 1) := by decide +kernel
theorem dJ3_checkIndex_8e157_12 : decode cJ3_checkIndex_8e157 12 = .ok (.invokestatic 95, 3) := by decide +kernel
theorem dJ3_checkIndex_8e157_15 : decode cJ3_checkIndex_8e157 15 = .ok (.athrow, 1) := by decide +kernel
theorem dJ3_checkIndex_8e157_16 : decode cJ3_checkIndex_8e157 16 = .ok (.iload_n 0, 1) := by decide +kernel
theorem dJ3_checkIndex_8e157_17 : decode cJ3_checkIndex_8e157 17 = .ok (.ireturn, 1) := by decide +kernel
abbrev mJ0_checkIndex_df160 : mT := (yJ0_checkIndex_df160, RJ0, cJ0_checkIndex_df160, 2, none, wsJ0_checkIndex_df160)
abbrev rJ0_checkIndex_df160 : Room := { frames := 2, cells := 0, slots := 0, locals := 62 }
theorem dJ0_checkIndex_df160_0 : decode cJ0_checkIndex_df160 0 = .ok (.iload_n 0, 1) := by decide +kernel
theorem dJ0_checkIndex_df160_1 : decode cJ0_checkIndex_df160 1 = .ok (.iload_n 1, 1) := by decide +kernel
theorem dJ0_checkIndex_df160_2 : decode cJ0_checkIndex_df160 2 = .ok (.getstatic 1053, 3) := by decide +kernel
theorem dJ0_checkIndex_df160_5 : decode cJ0_checkIndex_df160 5 = .ok (.invokestatic 1059, 3) := by decide +kernel
theorem dJ0_checkIndex_df160_8 : decode cJ0_checkIndex_df160 8 = .ok (.pop, 1) := by decide +kernel
theorem dJ0_checkIndex_df160_9 : decode cJ0_checkIndex_df160 9 = .ok (.return_, 1) := by decide +kernel
set_option maxRecDepth 20000 in
theorem ggJ0_checkIndex_df160_J3_checkIndex_8e157 : GoodIn wsJ0_checkIndex_df160 wsJ3_checkIndex_8e157 := goodIn_r _ [5] (by decide +kernel) (by decide +kernel)
set_option maxRecDepth 20000 in
theorem gJ0_checkIndex_df160_J3_checkIndex_8e157 : GoodIn wsJ0_checkIndex_df160 (va_wsS RJ0 1059 yJ3_checkIndex_8e157 wsJ3_checkIndex_8e157) := goodIn_app (goodIn_of _ (by decide +kernel)) ggJ0_checkIndex_df160_J3_checkIndex_8e157
theorem wJ0_checkIndex_df160_1059 : CWS mJ0_checkIndex_df160 1059 mJ3_checkIndex_8e157 3 := ⟨gJ0_checkIndex_df160_J3_checkIndex_8e157, ⟨_, rfl⟩, by decide +kernel, by decide +kernel, by decide +kernel⟩
abbrev mJ1_charAt_3b067 : mT := (yJ1_charAt_3b067, RJ1, cJ1_charAt_3b067, 2, (some .char), wsJ1_charAt_3b067)
abbrev rJ1_charAt_3b067 : Room := { frames := 3, cells := 0, slots := 0, locals := 83 }
theorem dJ1_charAt_3b067_0 : decode cJ1_charAt_3b067 0 = .ok (.iload_n 1, 1) := by decide +kernel
theorem dJ1_charAt_3b067_1 : decode cJ1_charAt_3b067 1 = .ok (.aload_n 0, 1) := by decide +kernel
theorem dJ1_charAt_3b067_2 : decode cJ1_charAt_3b067 2 = .ok (.arraylength, 1) := by decide +kernel
theorem dJ1_charAt_3b067_3 : decode cJ1_charAt_3b067 3 = .ok (.invokestatic 9, 3) := by decide +kernel
theorem dJ1_charAt_3b067_6 : decode cJ1_charAt_3b067 6 = .ok (.aload_n 0, 1) := by decide +kernel
theorem dJ1_charAt_3b067_7 : decode cJ1_charAt_3b067 7 = .ok (.iload_n 1, 1) := by decide +kernel
theorem dJ1_charAt_3b067_8 : decode cJ1_charAt_3b067 8 = .ok (.baload, 1) := by decide +kernel
theorem dJ1_charAt_3b067_9 : decode cJ1_charAt_3b067 9 = .ok (.sipush 255, 3) := by decide +kernel
theorem dJ1_charAt_3b067_12 : decode cJ1_charAt_3b067 12 = .ok (.iand, 1) := by decide +kernel
theorem dJ1_charAt_3b067_13 : decode cJ1_charAt_3b067 13 = .ok (.i2c, 1) := by decide +kernel
theorem dJ1_charAt_3b067_14 : decode cJ1_charAt_3b067 14 = .ok (.ireturn, 1) := by decide +kernel
set_option maxRecDepth 20000 in
theorem ggJ1_charAt_3b067_J0_checkIndex_df160 : GoodIn wsJ1_charAt_3b067 wsJ0_checkIndex_df160 := goodIn_r _ [4, 5, 6, 7, 8, 9] (by decide +kernel) (by decide +kernel)
set_option maxRecDepth 20000 in
theorem gJ1_charAt_3b067_J0_checkIndex_df160 : GoodIn wsJ1_charAt_3b067 (va_wsS RJ1 9 yJ0_checkIndex_df160 wsJ0_checkIndex_df160) := goodIn_app (goodIn_of _ (by decide +kernel)) ggJ1_charAt_3b067_J0_checkIndex_df160
theorem wJ1_charAt_3b067_9 : CWS mJ1_charAt_3b067 9 mJ0_checkIndex_df160 2 := ⟨gJ1_charAt_3b067_J0_checkIndex_df160, ⟨_, rfl⟩, by decide +kernel, by decide +kernel, by decide +kernel⟩
abbrev mJ2_charAt_3b067 : mT := (yJ2_charAt_3b067, RJ2, cJ2_charAt_3b067, 2, (some .char), wsJ2_charAt_3b067)
abbrev rJ2_charAt_3b067 : Room := { frames := 4, cells := 0, slots := 0, locals := 104 }
abbrev mJ0_charAt_5068e : mT := (yJ0_charAt_5068e, RJ0, cJ0_charAt_5068e, 2, (some .char), wsJ0_charAt_5068e)
abbrev rJ0_charAt_5068e : Room := { frames := 5, cells := 0, slots := 0, locals := 125 }
theorem dJ0_charAt_5068e_0 : decode cJ0_charAt_5068e 0 = .ok (.aload_n 0, 1) := by decide +kernel
theorem dJ0_charAt_5068e_1 : decode cJ0_charAt_5068e 1 = .ok (.invokevirtual 492, 3) := by decide +kernel
theorem dJ0_charAt_5068e_4 : decode cJ0_charAt_5068e 4 = .ok (.ifCond .eq 12, 3) := by decide +kernel
theorem dJ0_charAt_5068e_7 : decode cJ0_charAt_5068e 7 = .ok (.aload_n 0, 1) := by decide +kernel
theorem dJ0_charAt_5068e_8 : decode cJ0_charAt_5068e 8 = .ok (.getfield 9, 3) := by decide +kernel
theorem dJ0_charAt_5068e_11 : decode cJ0_charAt_5068e 11 = .ok (.iload_n 1, 1) := by decide +kernel
theorem dJ0_charAt_5068e_12 : decode cJ0_charAt_5068e 12 = .ok (.invokestatic 495, 3) := by decide +kernel
theorem dJ0_charAt_5068e_15 : decode cJ0_charAt_5068e 15 = .ok (.ireturn, 1) := by decide +kernel
theorem dJ0_charAt_5068e_16 : decode cJ0_charAt_5068e 16 = .ok (.aload_n 0, 1) := by decide +kernel
theorem dJ0_charAt_5068e_17 : decode cJ0_charAt_5068e 17 = .ok (.getfield 9, 3) := by decide +kernel
theorem dJ0_charAt_5068e_20 : decode cJ0_charAt_5068e 20 = .ok (.iload_n 1, 1) := by decide +kernel
theorem dJ0_charAt_5068e_21 : decode cJ0_charAt_5068e 21 = .ok (.invokestatic 498, 3) := by decide +kernel
theorem dJ0_charAt_5068e_24 : decode cJ0_charAt_5068e 24 = .ok (.ireturn, 1) := by decide +kernel
set_option maxRecDepth 20000 in
theorem ggJ0_charAt_5068e_J0_isLatin1_aae02 : GoodIn wsJ0_charAt_5068e wsJ0_isLatin1_aae02 := goodIn_r _ [6, 7, 8] (by decide +kernel) (by decide +kernel)
set_option maxRecDepth 20000 in
theorem gJ0_charAt_5068e_J0_isLatin1_aae02 : GoodIn wsJ0_charAt_5068e (wsV RJ0 492 RJ0 yJ0_isLatin1_aae02 wsJ0_isLatin1_aae02) := goodIn_app (goodIn_of _ (by decide +kernel)) ggJ0_charAt_5068e_J0_isLatin1_aae02
theorem wJ0_charAt_5068e_492 : CWV mJ0_charAt_5068e 492 mJ0_isLatin1_aae02 0 := ⟨gJ0_charAt_5068e_J0_isLatin1_aae02, ⟨_, rfl⟩, rfl, by decide +kernel, by decide +kernel, by decide +kernel⟩
set_option maxRecDepth 20000 in
theorem ggJ0_charAt_5068e_J1_charAt_3b067 : GoodIn wsJ0_charAt_5068e wsJ1_charAt_3b067 := goodIn_r _ [12, 13, 14, 5, 15, 16, 17, 18, 19, 20] (by decide +kernel) (by decide +kernel)
set_option maxRecDepth 20000 in
theorem gJ0_charAt_5068e_J1_charAt_3b067 : GoodIn wsJ0_charAt_5068e (va_wsS RJ0 495 yJ1_charAt_3b067 wsJ1_charAt_3b067) := goodIn_app (goodIn_of _ (by decide +kernel)) ggJ0_charAt_5068e_J1_charAt_3b067
theorem wJ0_charAt_5068e_495 : CWS mJ0_charAt_5068e 495 mJ1_charAt_3b067 2 := ⟨gJ0_charAt_5068e_J1_charAt_3b067, ⟨_, rfl⟩, by decide +kernel, by decide +kernel, by decide +kernel⟩
set_option maxRecDepth 20000 in
theorem ggJ0_charAt_5068e_J2_charAt_3b067 : GoodIn wsJ0_charAt_5068e wsJ2_charAt_3b067 := goodIn_r _ [24, 25, 26, 23, 27, 28, 29, 30, 31, 14, 5, 15, 16, 17, 18, 19, 20, 32, 33, 34, 35, 36, 37] (by decide +kernel) (by decide +kernel)
set_option maxRecDepth 20000 in
theorem gJ0_charAt_5068e_J2_charAt_3b067 : GoodIn wsJ0_charAt_5068e (va_wsS RJ0 498 yJ2_charAt_3b067 wsJ2_charAt_3b067) := goodIn_app (goodIn_of _ (by decide +kernel)) ggJ0_charAt_5068e_J2_charAt_3b067
theorem wJ0_charAt_5068e_498 : CWS mJ0_charAt_5068e 498 mJ2_charAt_3b067 2 := ⟨gJ0_charAt_5068e_J2_charAt_3b067, ⟨_, rfl⟩, by decide +kernel, by decide +kernel, by decide +kernel⟩
/-- char k of word i -/
def sCh (i k : Nat) : Int32 := (sByt.getD i []).getD k 0
def sLn (i : Nat) : Nat := sLen.getD i 0
theorem sCh_ok : ∀ i, i < 5 → ∀ k, k < sLn i → ((sCh i k &&& 255).toUInt32 % 65536).toInt32 = sCh i k ∧ narrow .char (.int (sCh i k)) = .int (sCh i k) := by decide +kernel
theorem sLn_lt : ∀ i, i < 5 → sLn i ≤ 5 := by decide
section
variable {Γ : gT} {l : Launch} {as : List Nat} {h : aH} {i : Nat}
theorem c_coder (hi : i < 5) : Det Γ l mJ0_coder_7d493 rJ0_coder_7d493 [.ref (gX Γ (1010 + i))] as h (some (.int 0)) h := by
  refine Con.of (by decide +kernel) rfl rfl (Nat.le_of_ble_eq_true rfl) ?_
  refine q_gets dJ0_coder_7d493_0 (fun _ _ e => e.2.2.2.2.2.1) (by decide +kernel) ?_
  refine q_if_eq 13 dJ0_coder_7d493_3 (by decide) (fun z => absurd z ((by decide))) (fun _ => ?_)
  refine q_aload_n dJ0_coder_7d493_6 rfl rfl ?_
  refine q_getS dJ0_coder_7d493_7 (fun _ _ e => (e.2.2.2.2.2.2.1.1 i hi).2.1) (by decide +kernel) ?_
  refine q_goto 14 dJ0_coder_7d493_10 (by decide) ?_
  exact q_zret dJ0_coder_7d493_14 rfl (rfl) (Nat.zero_le _) (Nat.zero_le _) (⟨rfl, rfl, rfl⟩)
theorem c_slength (hi : i < 5) : Det Γ l mJ0_length_8abf5 rJ0_length_8abf5 [.ref (gX Γ (1010 + i))] as h (some (.int (nI (sLn i)))) h := by
  refine Con.of (by decide +kernel) rfl rfl (Nat.le_of_ble_eq_true rfl) ?_
  refine q_aload_n dJ0_length_8abf5_0 rfl rfl ?_
  refine q_getS dJ0_length_8abf5_1 (fun _ _ e => (e.2.2.2.2.2.2.1.1 i hi).2.2.1) (by decide +kernel) ?_
  refine q_tlenB dJ0_length_8abf5_4 (fun _ _ e => (e.2.2.2.2.2.2.1.1 i hi).2.2.2) rfl ?_
  refine q_aload_n dJ0_length_8abf5_5 rfl rfl ?_
  refine q_callW hi dJ0_length_8abf5_6 wJ0_length_8abf5_335 (c_coder hi) rfl rfl rfl (Nat.le_of_ble_eq_true rfl) ⟨⟨Nat.le_of_ble_eq_true rfl, Nat.le_of_ble_eq_true rfl⟩, Nat.le_of_ble_eq_true rfl, Nat.le_of_ble_eq_true rfl⟩ ?_
  refine q_ishr dJ0_length_8abf5_9 ?_
  exact q_iret dJ0_length_8abf5_10 rfl (Nat.zero_le _) (Nat.zero_le _) (⟨by rw [sb_shr0]; rfl, rfl, rfl⟩)
theorem c_isLatin1 (hi : i < 5) : Det Γ l mJ0_isLatin1_aae02 rJ0_isLatin1_aae02 [.ref (gX Γ (1010 + i))] as h (some (.int 1)) h := by
  refine Con.of (by decide +kernel) rfl rfl (Nat.le_of_ble_eq_true rfl) ?_
  refine q_gets dJ0_isLatin1_aae02_0 (fun _ _ e => e.2.2.2.2.2.1) (by decide +kernel) ?_
  refine q_if_eq 17 dJ0_isLatin1_aae02_3 (by decide) (fun z => absurd z ((by decide))) (fun _ => ?_)
  refine q_aload_n dJ0_isLatin1_aae02_6 rfl rfl ?_
  refine q_getS dJ0_isLatin1_aae02_7 (fun _ _ e => (e.2.2.2.2.2.2.1.1 i hi).2.1) (by decide +kernel) ?_
  refine q_if_ne 17 dJ0_isLatin1_aae02_10 (by decide) (fun z => absurd (rfl) z) (fun _ => ?_)
  refine q_iconst (v := 1) dJ0_isLatin1_aae02_13 rfl ?_
  refine q_goto 18 dJ0_isLatin1_aae02_14 (by decide) ?_
  exact q_zret dJ0_isLatin1_aae02_18 rfl (rfl) (Nat.zero_le _) (Nat.zero_le _) (⟨rfl, rfl, rfl⟩)
theorem c_check3n {k n : Nat} (hk : k < n) (hn : n < 2 ^ 31) : Det Γ l mJ3_checkIndex_8e157 rJ3_checkIndex_8e157 [.int (nI k), .int (nI n), .null] as h (some (.int (nI k))) h := by
  refine Con.of (by decide +kernel) rfl rfl (Nat.le_of_ble_eq_true rfl) ?_
  refine q_iload_n dJ3_checkIndex_8e157_0 rfl rfl ?_
  refine q_if_lt 9 dJ3_checkIndex_8e157_1 (by decide) (fun z => absurd z (nI_pos (by omega))) (fun _ => ?_)
  refine q_iload_n dJ3_checkIndex_8e157_4 rfl rfl ?_
  refine q_iload_n dJ3_checkIndex_8e157_5 rfl rfl ?_
  refine q_icmp_lt 16 dJ3_checkIndex_8e157_6 (by decide) (fun _ => ?_) (fun z => absurd (nI_lt hk hn) z)
  refine q_iload_n dJ3_checkIndex_8e157_16 rfl rfl ?_
  exact q_iret dJ3_checkIndex_8e157_17 rfl (Nat.zero_le _) (Nat.zero_le _) (⟨rfl, rfl, rfl⟩)
theorem c_check3r {k n t : Nat} (hk : k < n) (hn : n < 2 ^ 31) : Det Γ l mJ3_checkIndex_8e157 rJ3_checkIndex_8e157 [.int (nI k), .int (nI n), .ref t] as h (some (.int (nI k))) h := by
  refine Con.of (by decide +kernel) rfl rfl (Nat.le_of_ble_eq_true rfl) ?_
  refine q_iload_n dJ3_checkIndex_8e157_0 rfl rfl ?_
  refine q_if_lt 9 dJ3_checkIndex_8e157_1 (by decide) (fun z => absurd z (nI_pos (by omega))) (fun _ => ?_)
  refine q_iload_n dJ3_checkIndex_8e157_4 rfl rfl ?_
  refine q_iload_n dJ3_checkIndex_8e157_5 rfl rfl ?_
  refine q_icmp_lt 16 dJ3_checkIndex_8e157_6 (by decide) (fun _ => ?_) (fun z => absurd (nI_lt hk hn) z)
  refine q_iload_n dJ3_checkIndex_8e157_16 rfl rfl ?_
  exact q_iret dJ3_checkIndex_8e157_17 rfl (Nat.zero_le _) (Nat.zero_le _) (⟨rfl, rfl, rfl⟩)
theorem c_check0 {k n : Nat} (hk : k < n) (hn : n < 2 ^ 31) : Det Γ l mJ0_checkIndex_df160 rJ0_checkIndex_df160 [.int (nI k), .int (nI n)] as h none h := by
  refine Con.of (by decide +kernel) rfl rfl (Nat.le_of_ble_eq_true rfl) ?_
  refine q_iload_n dJ0_checkIndex_df160_0 rfl rfl ?_
  refine q_iload_n dJ0_checkIndex_df160_1 rfl rfl ?_
  refine q_getsZ dJ0_checkIndex_df160_2 (fun _ _ e => e.2.2.2.2.2.2.2.1) (by decide +kernel) ?_ (fun t => ?_)
  · refine q_callSd dJ0_checkIndex_df160_5 wJ0_checkIndex_df160_1059 (c_check3n hk hn) rfl rfl (Nat.le_of_ble_eq_true rfl) ⟨⟨Nat.le_of_ble_eq_true rfl, Nat.le_of_ble_eq_true rfl⟩, Nat.le_of_ble_eq_true rfl, Nat.le_of_ble_eq_true rfl⟩ ?_
    refine q_pop dJ0_checkIndex_df160_8 rfl ?_
    exact q_vret dJ0_checkIndex_df160_9 rfl (Nat.zero_le _) (Nat.zero_le _) ⟨rfl, rfl, rfl⟩
  · refine q_callSd dJ0_checkIndex_df160_5 wJ0_checkIndex_df160_1059 (c_check3r hk hn) rfl rfl (Nat.le_of_ble_eq_true rfl) ⟨⟨Nat.le_of_ble_eq_true rfl, Nat.le_of_ble_eq_true rfl⟩, Nat.le_of_ble_eq_true rfl, Nat.le_of_ble_eq_true rfl⟩ ?_
    refine q_pop dJ0_checkIndex_df160_8 rfl ?_
    exact q_vret dJ0_checkIndex_df160_9 rfl (Nat.zero_le _) (Nat.zero_le _) ⟨rfl, rfl, rfl⟩
theorem c_charAt1 {k : Nat} (hi : i < 5) (hk : k < sLn i) : Det Γ l mJ1_charAt_3b067 rJ1_charAt_3b067 [.ref (gX Γ (1020 + i)), .int (nI k)] as h (some (.int (sCh i k))) h := by
  have h5 := sLn_lt i hi
  refine Con.of (by decide +kernel) rfl rfl (Nat.le_of_ble_eq_true rfl) ?_
  refine q_iload_n dJ1_charAt_3b067_0 rfl rfl ?_
  refine q_aload_n dJ1_charAt_3b067_1 rfl rfl ?_
  refine q_tlenB (v := nI (sLn i)) dJ1_charAt_3b067_2 (fun _ _ e => (e.2.2.2.2.2.2.1.1 i hi).2.2.2) rfl ?_
  refine q_callSd dJ1_charAt_3b067_3 wJ1_charAt_3b067_9 (c_check0 hk (by omega)) rfl rfl (Nat.le_of_ble_eq_true rfl) ⟨⟨Nat.le_of_ble_eq_true rfl, Nat.le_of_ble_eq_true rfl⟩, Nat.le_of_ble_eq_true rfl, Nat.le_of_ble_eq_true rfl⟩ ?_
  refine q_aload_n dJ1_charAt_3b067_6 rfl rfl ?_
  refine q_iload_n dJ1_charAt_3b067_7 rfl rfl ?_
  refine q_tb (v := .int (sCh i k)) dJ1_charAt_3b067_8 (fun _ _ e => (e.2.2.2.2.2.2.1.1 i hi).2.2.2) (show vp_in (nI k) (sLn i) from in_nI hk (by omega)) (by rw [nI_clamp (by omega)]; rfl) ?_
  refine q_sipush (v := 255) dJ1_charAt_3b067_9 rfl ?_
  refine q_iand dJ1_charAt_3b067_12 ?_
  refine q_i2c dJ1_charAt_3b067_13 ?_
  rw [(sCh_ok i hi k hk).1]
  exact q_zret dJ1_charAt_3b067_14 rfl ((sCh_ok i hi k hk).2) (Nat.zero_le _) (Nat.zero_le _) (⟨rfl, rfl, rfl⟩)
theorem c_charAt {k : Nat} (hi : i < 5) (hk : k < sLn i) : Det Γ l mJ0_charAt_5068e rJ0_charAt_5068e [.ref (gX Γ (1010 + i)), .int (nI k)] as h (some (.int (sCh i k))) h := by
  refine Con.of (by decide +kernel) rfl rfl (Nat.le_of_ble_eq_true rfl) ?_
  refine q_aload_n dJ0_charAt_5068e_0 rfl rfl ?_
  refine q_callW hi dJ0_charAt_5068e_1 wJ0_charAt_5068e_492 (c_isLatin1 hi) rfl rfl rfl (Nat.le_of_ble_eq_true rfl) ⟨⟨Nat.le_of_ble_eq_true rfl, Nat.le_of_ble_eq_true rfl⟩, Nat.le_of_ble_eq_true rfl, Nat.le_of_ble_eq_true rfl⟩ ?_
  refine q_if_eq 16 dJ0_charAt_5068e_4 (by decide) (fun z => absurd z ((by decide))) (fun _ => ?_)
  refine q_aload_n dJ0_charAt_5068e_7 rfl rfl ?_
  refine q_getS dJ0_charAt_5068e_8 (fun _ _ e => (e.2.2.2.2.2.2.1.1 i hi).2.2.1) (by decide +kernel) ?_
  refine q_iload_n dJ0_charAt_5068e_11 rfl rfl ?_
  refine q_callSd dJ0_charAt_5068e_12 wJ0_charAt_5068e_495 (c_charAt1 hi hk) rfl rfl (Nat.le_of_ble_eq_true rfl) ⟨⟨Nat.le_of_ble_eq_true rfl, Nat.le_of_ble_eq_true rfl⟩, Nat.le_of_ble_eq_true rfl, Nat.le_of_ble_eq_true rfl⟩ ?_
  exact q_zret dJ0_charAt_5068e_15 rfl ((sCh_ok i hi k hk).2) (Nat.zero_le _) (Nat.zero_le _) (⟨rfl, rfl, rfl⟩)
end

