/-! TUNES (X7), MEETING (X3), LAWS (X2), Integer.bitCount, TOWN (X6) -/
section Rules3
variable {Γ : gT} {l : Launch} {μ : mT} {R : Room} {Z : zT} {kc ks pc : Nat} {ls : List (Nat × Value)} {st : List Value} {as : List Nat} {h : aH}
theorem q_gets {index : Nat} {C n d : String} {v : Value} (hd : decode μ.2.2.1 pc = .ok (.getstatic index, 3)) (hZ : ∀ (U : State) (H : Heap), EXT Γ U H → va_Z C n d v (gA Γ) U H) (hw : Cond.fieldLink μ.2.1 index C n d ∈ μ.2.2.2.2.2) (k : V Γ l μ R Z kc ks (pc + 3) ls (v :: st) as h) : V Γ l μ R Z kc ks pc ls st as h := by
  intro p e s m args below meth c H locs lsA C ho hP hS hl
  exact va_gets C.1 C.2.1 (hZ _ _ C.2.2.2.2.2.2.2.2.2.1) hS C.2.2.2.2.1 (C.2.2.2.2.2.1 _ hw) (fun _ z => z) hd (k p e s m args below meth c H locs lsA C ho hP hS hl)
theorem q_ti {t N : Nat} {f : Nat → Value} {i : Int32} {v : Value} (hd : decode μ.2.2.1 pc = .ok (.iaload, 1)) (hT : ∀ (U : State) (H : Heap), EXT Γ U H → va_T .int t N f (gA Γ) U H) (hin : vp_in i N) (hv : f i.toNatClampNeg = v) (k : V Γ l μ R Z kc ks (pc + 1) ls (v :: st) as h) : V Γ l μ R Z kc ks pc ls (.int i :: .ref t :: st) as h := by
  intro p e s m args below meth c H locs lsA C ho hP hS hl
  exact va_ti C.1 C.2.1 (hT _ _ C.2.2.2.2.2.2.2.2.2.1) hS hin hv hd (k p e s m args below meth c H locs lsA C ho hP hS hl)
theorem q_tlen {t N : Nat} {f : Nat → Value} {v : Int32} (hd : decode μ.2.2.1 pc = .ok (.arraylength, 1)) (hT : ∀ (U : State) (H : Heap), EXT Γ U H → va_T .int t N f (gA Γ) U H) (hv : Int32.ofNat N = v) (k : V Γ l μ R Z kc ks (pc + 1) ls (.int v :: st) as h) : V Γ l μ R Z kc ks pc ls (.ref t :: st) as h := by
  intro p e s m args below meth c H locs lsA C ho hP hS hl
  exact va_tlen C.1 C.2.1 (hT _ _ C.2.2.2.2.2.2.2.2.2.1) hS hv hd (k p e s m args below meth c H locs lsA C ho hP hS hl)
end Rules3
abbrev mX7_of : mT := (yX7_of, RX7, cX7_of, 2, (some .int), wsX7_of)
abbrev rX7_of : Room := { frames := 0, cells := 0, slots := 0, locals := 0 }
theorem dX7_of_0 : decode cX7_of 0 = .ok (.aload_n 0, 1) := by decide +kernel
theorem dX7_of_1 : decode cX7_of 1 = .ok (.getfield 9, 3) := by decide +kernel
theorem dX7_of_4 : decode cX7_of 4 = .ok (.iload_n 1, 1) := by decide +kernel
theorem dX7_of_5 : decode cX7_of 5 = .ok (.iaload, 1) := by decide +kernel
theorem dX7_of_6 : decode cX7_of 6 = .ok (.ireturn, 1) := by decide +kernel
theorem iX7_of_7 : ∀ w ∈ wsX70, w ∈ wsX7_of := fun w h => List.mem_cons_of_mem _ (List.mem_append_right _ h)
theorem fX7_of_9 : FL mX7_of 9 7 0 := ⟨_, _, _, rfl, by decide, iX7_of_7, by decide +kernel⟩
abbrev mX7_set : mT := (yX7_set, RX7, cX7_set, 4, (some .int), wsX7_set)
abbrev rX7_set : Room := { frames := 0, cells := 0, slots := 0, locals := 0 }
theorem dX7_set_0 : decode cX7_set 0 = .ok (.iload_n 1, 1) := by decide +kernel
theorem dX7_set_1 : decode cX7_set 1 = .ok (.ifCond .lt 30, 3) := by decide +kernel
theorem dX7_set_4 : decode cX7_set 4 = .ok (.iload_n 1, 1) := by decide +kernel
theorem dX7_set_5 : decode cX7_set 5 = .ok (.aload_n 0, 1) := by decide +kernel
theorem dX7_set_6 : decode cX7_set 6 = .ok (.getfield 9, 3) := by decide +kernel
theorem dX7_set_9 : decode cX7_set 9 = .ok (.arraylength, 1) := by decide +kernel
theorem dX7_set_10 : decode cX7_set 10 = .ok (.if_icmp .ge 21, 3) := by decide +kernel
theorem dX7_set_13 : decode cX7_set 13 = .ok (.iload_n 2, 1) := by decide +kernel
theorem dX7_set_14 : decode cX7_set 14 = .ok (.getstatic 15, 3) := by decide +kernel
theorem dX7_set_17 : decode cX7_set 17 = .ok (.iload_n 1, 1) := by decide +kernel
theorem dX7_set_18 : decode cX7_set 18 = .ok (.iaload, 1) := by decide +kernel
theorem dX7_set_19 : decode cX7_set 19 = .ok (.if_icmp .lt 12, 3) := by decide +kernel
theorem dX7_set_22 : decode cX7_set 22 = .ok (.iload_n 2, 1) := by decide +kernel
theorem dX7_set_23 : decode cX7_set 23 = .ok (.getstatic 18, 3) := by decide +kernel
theorem dX7_set_26 : decode cX7_set 26 = .ok (.iload_n 1, 1) := by decide +kernel
theorem dX7_set_27 : decode cX7_set 27 = .ok (.iaload, 1) := by decide +kernel
theorem dX7_set_28 : decode cX7_set 28 = .ok (.if_icmp .le 5, 3) := by decide +kernel
theorem dX7_set_31 : decode cX7_set 31 = .ok (.iconst (-1), 1) := by decide +kernel
theorem dX7_set_32 : decode cX7_set 32 = .ok (.ireturn, 1) := by decide +kernel
theorem dX7_set_33 : decode cX7_set 33 = .ok (.aload_n 0, 1) := by decide +kernel
theorem dX7_set_34 : decode cX7_set 34 = .ok (.getfield 9, 3) := by decide +kernel
theorem dX7_set_37 : decode cX7_set 37 = .ok (.iload_n 1, 1) := by decide +kernel
theorem dX7_set_38 : decode cX7_set 38 = .ok (.iaload, 1) := by decide +kernel
theorem dX7_set_39 : decode cX7_set 39 = .ok (.istore_n 3, 1) := by decide +kernel
theorem dX7_set_40 : decode cX7_set 40 = .ok (.aload_n 0, 1) := by decide +kernel
theorem dX7_set_41 : decode cX7_set 41 = .ok (.getfield 9, 3) := by decide +kernel
theorem dX7_set_44 : decode cX7_set 44 = .ok (.iload_n 1, 1) := by decide +kernel
theorem dX7_set_45 : decode cX7_set 45 = .ok (.iload_n 2, 1) := by decide +kernel
theorem dX7_set_46 : decode cX7_set 46 = .ok (.iastore, 1) := by decide +kernel
theorem dX7_set_47 : decode cX7_set 47 = .ok (.iload_n 3, 1) := by decide +kernel
theorem dX7_set_48 : decode cX7_set 48 = .ok (.ireturn, 1) := by decide +kernel
theorem iX7_set_7 : ∀ w ∈ wsX70, w ∈ wsX7_set := fun w h => List.mem_cons_of_mem _ (List.mem_append_right _ h)
theorem fX7_set_9 : FL mX7_set 9 7 0 := ⟨_, _, _, rfl, by decide, iX7_set_7, by decide +kernel⟩
abbrev mX3_forget : mT := (yX3_forget, RX3, cX3_forget, 1, none, wsX3_forget)
abbrev rX3_forget : Room := { frames := 0, cells := 0, slots := 0, locals := 0 }
theorem dX3_forget_0 : decode cX3_forget 0 = .ok (.aload_n 0, 1) := by decide +kernel
theorem dX3_forget_1 : decode cX3_forget 1 = .ok (.bipush (-9), 2) := by decide +kernel
theorem dX3_forget_3 : decode cX3_forget 3 = .ok (.putfield 9, 3) := by decide +kernel
theorem dX3_forget_6 : decode cX3_forget 6 = .ok (.aload_n 0, 1) := by decide +kernel
theorem dX3_forget_7 : decode cX3_forget 7 = .ok (.bipush (-9), 2) := by decide +kernel
theorem dX3_forget_9 : decode cX3_forget 9 = .ok (.putfield 15, 3) := by decide +kernel
theorem dX3_forget_12 : decode cX3_forget 12 = .ok (.aload_n 0, 1) := by decide +kernel
theorem dX3_forget_13 : decode cX3_forget 13 = .ok (.bipush (-9), 2) := by decide +kernel
theorem dX3_forget_15 : decode cX3_forget 15 = .ok (.putfield 18, 3) := by decide +kernel
theorem dX3_forget_18 : decode cX3_forget 18 = .ok (.aload_n 0, 1) := by decide +kernel
theorem dX3_forget_19 : decode cX3_forget 19 = .ok (.bipush (-9), 2) := by decide +kernel
theorem dX3_forget_21 : decode cX3_forget 21 = .ok (.putfield 21, 3) := by decide +kernel
theorem dX3_forget_24 : decode cX3_forget 24 = .ok (.aload_n 0, 1) := by decide +kernel
theorem dX3_forget_25 : decode cX3_forget 25 = .ok (.iconst 0, 1) := by decide +kernel
theorem dX3_forget_26 : decode cX3_forget 26 = .ok (.putfield 24, 3) := by decide +kernel
theorem dX3_forget_29 : decode cX3_forget 29 = .ok (.return_, 1) := by decide +kernel
theorem iX3_forget_3 : ∀ w ∈ wsX30, w ∈ wsX3_forget := fun w h => List.mem_cons_of_mem _ (List.mem_append_right _ h)
theorem pX3_forget_9 : FP mX3_forget 9 3 0 .int false := ⟨_, _, _, tyX3, rfl, by decide, iX3_forget_3, by decide +kernel, tyX3_ok, nmX3, rfl, rfl, fun z => absurd z (by decide)⟩
theorem pX3_forget_15 : FP mX3_forget 15 3 1 .int false := ⟨_, _, _, tyX3, rfl, by decide, iX3_forget_3, by decide +kernel, tyX3_ok, nmX3, rfl, rfl, fun z => absurd z (by decide)⟩
theorem pX3_forget_18 : FP mX3_forget 18 3 2 .int false := ⟨_, _, _, tyX3, rfl, by decide, iX3_forget_3, by decide +kernel, tyX3_ok, nmX3, rfl, rfl, fun z => absurd z (by decide)⟩
theorem pX3_forget_21 : FP mX3_forget 21 3 3 .int false := ⟨_, _, _, tyX3, rfl, by decide, iX3_forget_3, by decide +kernel, tyX3_ok, nmX3, rfl, rfl, fun z => absurd z (by decide)⟩
theorem pX3_forget_24 : FP mX3_forget 24 3 4 .int false := ⟨_, _, _, tyX3, rfl, by decide, iX3_forget_3, by decide +kernel, tyX3_ok, nmX3, rfl, rfl, fun z => absurd z (by decide)⟩
abbrev mX3_note : mT := (yX3_note, RX3, cX3_note, 5, none, wsX3_note)
abbrev rX3_note : Room := { frames := 0, cells := 0, slots := 0, locals := 0 }
theorem dX3_note_0 : decode cX3_note 0 = .ok (.aload_n 0, 1) := by decide +kernel
theorem dX3_note_1 : decode cX3_note 1 = .ok (.iload_n 1, 1) := by decide +kernel
theorem dX3_note_2 : decode cX3_note 2 = .ok (.putfield 9, 3) := by decide +kernel
theorem dX3_note_5 : decode cX3_note 5 = .ok (.aload_n 0, 1) := by decide +kernel
theorem dX3_note_6 : decode cX3_note 6 = .ok (.iload_n 2, 1) := by decide +kernel
theorem dX3_note_7 : decode cX3_note 7 = .ok (.putfield 15, 3) := by decide +kernel
theorem dX3_note_10 : decode cX3_note 10 = .ok (.aload_n 0, 1) := by decide +kernel
theorem dX3_note_11 : decode cX3_note 11 = .ok (.iload_n 3, 1) := by decide +kernel
theorem dX3_note_12 : decode cX3_note 12 = .ok (.putfield 18, 3) := by decide +kernel
theorem dX3_note_15 : decode cX3_note 15 = .ok (.aload_n 0, 1) := by decide +kernel
theorem dX3_note_16 : decode cX3_note 16 = .ok (.iload 4, 2) := by decide +kernel
theorem dX3_note_18 : decode cX3_note 18 = .ok (.putfield 21, 3) := by decide +kernel
theorem dX3_note_21 : decode cX3_note 21 = .ok (.aload_n 0, 1) := by decide +kernel
theorem dX3_note_22 : decode cX3_note 22 = .ok (.dup, 1) := by decide +kernel
theorem dX3_note_23 : decode cX3_note 23 = .ok (.getfield 24, 3) := by decide +kernel
theorem dX3_note_26 : decode cX3_note 26 = .ok (.iconst 1, 1) := by decide +kernel
theorem dX3_note_27 : decode cX3_note 27 = .ok (.iadd, 1) := by decide +kernel
theorem dX3_note_28 : decode cX3_note 28 = .ok (.putfield 24, 3) := by decide +kernel
theorem dX3_note_31 : decode cX3_note 31 = .ok (.return_, 1) := by decide +kernel
theorem iX3_note_3 : ∀ w ∈ wsX30, w ∈ wsX3_note := fun w h => List.mem_cons_of_mem _ (List.mem_append_right _ h)
theorem pX3_note_9 : FP mX3_note 9 3 0 .int false := ⟨_, _, _, tyX3, rfl, by decide, iX3_note_3, by decide +kernel, tyX3_ok, nmX3, rfl, rfl, fun z => absurd z (by decide)⟩
theorem pX3_note_15 : FP mX3_note 15 3 1 .int false := ⟨_, _, _, tyX3, rfl, by decide, iX3_note_3, by decide +kernel, tyX3_ok, nmX3, rfl, rfl, fun z => absurd z (by decide)⟩
theorem pX3_note_18 : FP mX3_note 18 3 2 .int false := ⟨_, _, _, tyX3, rfl, by decide, iX3_note_3, by decide +kernel, tyX3_ok, nmX3, rfl, rfl, fun z => absurd z (by decide)⟩
theorem pX3_note_21 : FP mX3_note 21 3 3 .int false := ⟨_, _, _, tyX3, rfl, by decide, iX3_note_3, by decide +kernel, tyX3_ok, nmX3, rfl, rfl, fun z => absurd z (by decide)⟩
theorem fX3_note_24 : FL mX3_note 24 3 4 := ⟨_, _, _, rfl, by decide, iX3_note_3, by decide +kernel⟩
theorem pX3_note_24 : FP mX3_note 24 3 4 .int false := ⟨_, _, _, tyX3, rfl, by decide, iX3_note_3, by decide +kernel, tyX3_ok, nmX3, rfl, rfl, fun z => absurd z (by decide)⟩
abbrev mX2_set : mT := (yX2_set, RX2, cX2_set, 5, (some .int), wsX2_set)
abbrev rX2_set : Room := { frames := 0, cells := 0, slots := 0, locals := 0 }
theorem dX2_set_0 : decode cX2_set 0 = .ok (.iload_n 1, 1) := by decide +kernel
theorem dX2_set_1 : decode cX2_set 1 = .ok (.ifCond .lt 28, 3) := by decide +kernel
theorem dX2_set_4 : decode cX2_set 4 = .ok (.iload_n 1, 1) := by decide +kernel
theorem dX2_set_5 : decode cX2_set 5 = .ok (.bipush 9, 2) := by decide +kernel
theorem dX2_set_7 : decode cX2_set 7 = .ok (.if_icmp .ge 22, 3) := by decide +kernel
theorem dX2_set_10 : decode cX2_set 10 = .ok (.iload_n 2, 1) := by decide +kernel
theorem dX2_set_11 : decode cX2_set 11 = .ok (.ifCond .lt 18, 3) := by decide +kernel
theorem dX2_set_14 : decode cX2_set 14 = .ok (.iload_n 2, 1) := by decide +kernel
theorem dX2_set_15 : decode cX2_set 15 = .ok (.iconst 3, 1) := by decide +kernel
theorem dX2_set_16 : decode cX2_set 16 = .ok (.if_icmp .ge 13, 3) := by decide +kernel
theorem dX2_set_19 : decode cX2_set 19 = .ok (.iload_n 3, 1) := by decide +kernel
theorem dX2_set_20 : decode cX2_set 20 = .ok (.ifCond .lt 9, 3) := by decide +kernel
theorem dX2_set_23 : decode cX2_set 23 = .ok (.iload_n 3, 1) := by decide +kernel
theorem dX2_set_24 : decode cX2_set 24 = .ok (.bipush 99, 2) := by decide +kernel
theorem dX2_set_26 : decode cX2_set 26 = .ok (.if_icmp .le 5, 3) := by decide +kernel
theorem dX2_set_29 : decode cX2_set 29 = .ok (.iconst (-1), 1) := by decide +kernel
theorem dX2_set_30 : decode cX2_set 30 = .ok (.ireturn, 1) := by decide +kernel
theorem dX2_set_31 : decode cX2_set 31 = .ok (.aload_n 0, 1) := by decide +kernel
theorem dX2_set_32 : decode cX2_set 32 = .ok (.getfield 11, 3) := by decide +kernel
theorem dX2_set_35 : decode cX2_set 35 = .ok (.iload_n 1, 1) := by decide +kernel
theorem dX2_set_36 : decode cX2_set 36 = .ok (.iconst 3, 1) := by decide +kernel
theorem dX2_set_37 : decode cX2_set 37 = .ok (.imul, 1) := by decide +kernel
theorem dX2_set_38 : decode cX2_set 38 = .ok (.iload_n 2, 1) := by decide +kernel
theorem dX2_set_39 : decode cX2_set 39 = .ok (.iadd, 1) := by decide +kernel
theorem dX2_set_40 : decode cX2_set 40 = .ok (.iaload, 1) := by decide +kernel
theorem dX2_set_41 : decode cX2_set 41 = .ok (.istore 4, 2) := by decide +kernel
theorem dX2_set_43 : decode cX2_set 43 = .ok (.aload_n 0, 1) := by decide +kernel
theorem dX2_set_44 : decode cX2_set 44 = .ok (.getfield 11, 3) := by decide +kernel
theorem dX2_set_47 : decode cX2_set 47 = .ok (.iload_n 1, 1) := by decide +kernel
theorem dX2_set_48 : decode cX2_set 48 = .ok (.iconst 3, 1) := by decide +kernel
theorem dX2_set_49 : decode cX2_set 49 = .ok (.imul, 1) := by decide +kernel
theorem dX2_set_50 : decode cX2_set 50 = .ok (.iload_n 2, 1) := by decide +kernel
theorem dX2_set_51 : decode cX2_set 51 = .ok (.iadd, 1) := by decide +kernel
theorem dX2_set_52 : decode cX2_set 52 = .ok (.iload_n 3, 1) := by decide +kernel
theorem dX2_set_53 : decode cX2_set 53 = .ok (.iastore, 1) := by decide +kernel
theorem dX2_set_54 : decode cX2_set 54 = .ok (.iload 4, 2) := by decide +kernel
theorem dX2_set_56 : decode cX2_set 56 = .ok (.ireturn, 1) := by decide +kernel
theorem iX2_set_2 : ∀ w ∈ wsX20, w ∈ wsX2_set := fun w h => List.mem_cons_of_mem _ (List.mem_append_right _ h)
theorem fX2_set_11 : FL mX2_set 11 2 0 := ⟨_, _, _, rfl, by decide, iX2_set_2, by decide +kernel⟩
abbrev mX2_sumOf : mT := (yX2_sumOf, RX2, cX2_sumOf, 5, (some .int), wsX2_sumOf)
abbrev rX2_sumOf : Room := { frames := 0, cells := 0, slots := 0, locals := 0 }
theorem dX2_sumOf_0 : decode cX2_sumOf 0 = .ok (.iconst 0, 1) := by decide +kernel
theorem dX2_sumOf_1 : decode cX2_sumOf 1 = .ok (.istore_n 3, 1) := by decide +kernel
theorem dX2_sumOf_2 : decode cX2_sumOf 2 = .ok (.iconst 0, 1) := by decide +kernel
theorem dX2_sumOf_3 : decode cX2_sumOf 3 = .ok (.istore 4, 2) := by decide +kernel
theorem dX2_sumOf_5 : decode cX2_sumOf 5 = .ok (.iload 4, 2) := by decide +kernel
theorem dX2_sumOf_7 : decode cX2_sumOf 7 = .ok (.bipush 9, 2) := by decide +kernel
theorem dX2_sumOf_9 : decode cX2_sumOf 9 = .ok (.if_icmp .ge 33, 3) := by decide +kernel
theorem dX2_sumOf_12 : decode cX2_sumOf 12 = .ok (.iload_n 1, 1) := by decide +kernel
theorem dX2_sumOf_13 : decode cX2_sumOf 13 = .ok (.iload 4, 2) := by decide +kernel
theorem dX2_sumOf_15 : decode cX2_sumOf 15 = .ok (.ishr, 1) := by decide +kernel
theorem dX2_sumOf_16 : decode cX2_sumOf 16 = .ok (.iconst 1, 1) := by decide +kernel
theorem dX2_sumOf_17 : decode cX2_sumOf 17 = .ok (.iand, 1) := by decide +kernel
theorem dX2_sumOf_18 : decode cX2_sumOf 18 = .ok (.iconst 1, 1) := by decide +kernel
theorem dX2_sumOf_19 : decode cX2_sumOf 19 = .ok (.if_icmp .ne 17, 3) := by decide +kernel
theorem dX2_sumOf_22 : decode cX2_sumOf 22 = .ok (.iload_n 3, 1) := by decide +kernel
theorem dX2_sumOf_23 : decode cX2_sumOf 23 = .ok (.aload_n 0, 1) := by decide +kernel
theorem dX2_sumOf_24 : decode cX2_sumOf 24 = .ok (.getfield 11, 3) := by decide +kernel
theorem dX2_sumOf_27 : decode cX2_sumOf 27 = .ok (.iload 4, 2) := by decide +kernel
theorem dX2_sumOf_29 : decode cX2_sumOf 29 = .ok (.iconst 3, 1) := by decide +kernel
theorem dX2_sumOf_30 : decode cX2_sumOf 30 = .ok (.imul, 1) := by decide +kernel
theorem dX2_sumOf_31 : decode cX2_sumOf 31 = .ok (.iload_n 2, 1) := by decide +kernel
theorem dX2_sumOf_32 : decode cX2_sumOf 32 = .ok (.iadd, 1) := by decide +kernel
theorem dX2_sumOf_33 : decode cX2_sumOf 33 = .ok (.iaload, 1) := by decide +kernel
theorem dX2_sumOf_34 : decode cX2_sumOf 34 = .ok (.iadd, 1) := by decide +kernel
theorem dX2_sumOf_35 : decode cX2_sumOf 35 = .ok (.istore_n 3, 1) := by decide +kernel
theorem dX2_sumOf_36 : decode cX2_sumOf 36 = .ok (.iinc 4 1, 3) := by decide +kernel
theorem dX2_sumOf_39 : decode cX2_sumOf 39 = .ok (.goto (-34), 3) := by decide +kernel
theorem dX2_sumOf_42 : decode cX2_sumOf 42 = .ok (.iload_n 3, 1) := by decide +kernel
theorem dX2_sumOf_43 : decode cX2_sumOf 43 = .ok (.ireturn, 1) := by decide +kernel
theorem iX2_sumOf_2 : ∀ w ∈ wsX20, w ∈ wsX2_sumOf := fun w h => List.mem_cons_of_mem _ (List.mem_append_right _ h)
theorem fX2_sumOf_11 : FL mX2_sumOf 11 2 0 := ⟨_, _, _, rfl, by decide, iX2_sumOf_2, by decide +kernel⟩
abbrev mX2_cheapestSet : mT := (yX2_cheapestSet, RX2, cX2_cheapestSet, 7, (some .int), wsX2_cheapestSet)
abbrev rX2_cheapestSet : Room := { frames := 1, cells := 0, slots := 0, locals := 24 }
theorem dX2_cheapestSet_0 : decode cX2_cheapestSet 0 = .ok (.bipush (-9), 2) := by decide +kernel
theorem dX2_cheapestSet_2 : decode cX2_cheapestSet 2 = .ok (.istore_n 3, 1) := by decide +kernel
theorem dX2_cheapestSet_3 : decode cX2_cheapestSet 3 = .ok (.ldc 17, 2) := by decide +kernel
theorem dX2_cheapestSet_5 : decode cX2_cheapestSet 5 = .ok (.istore 4, 2) := by decide +kernel
theorem dX2_cheapestSet_7 : decode cX2_cheapestSet 7 = .ok (.iconst 0, 1) := by decide +kernel
theorem dX2_cheapestSet_8 : decode cX2_cheapestSet 8 = .ok (.istore 5, 2) := by decide +kernel
theorem dX2_cheapestSet_10 : decode cX2_cheapestSet 10 = .ok (.iload 5, 2) := by decide +kernel
theorem dX2_cheapestSet_12 : decode cX2_cheapestSet 12 = .ok (.sipush 512, 3) := by decide +kernel
theorem dX2_cheapestSet_15 : decode cX2_cheapestSet 15 = .ok (.if_icmp .ge 54, 3) := by decide +kernel
theorem dX2_cheapestSet_18 : decode cX2_cheapestSet 18 = .ok (.aload_n 0, 1) := by decide +kernel
theorem dX2_cheapestSet_19 : decode cX2_cheapestSet 19 = .ok (.iload 5, 2) := by decide +kernel
theorem dX2_cheapestSet_21 : decode cX2_cheapestSet 21 = .ok (.iconst 0, 1) := by decide +kernel
theorem dX2_cheapestSet_22 : decode cX2_cheapestSet 22 = .ok (.invokevirtual 18, 3) := by decide +kernel
theorem dX2_cheapestSet_25 : decode cX2_cheapestSet 25 = .ok (.istore 6, 2) := by decide +kernel
theorem dX2_cheapestSet_27 : decode cX2_cheapestSet 27 = .ok (.iload 6, 2) := by decide +kernel
theorem dX2_cheapestSet_29 : decode cX2_cheapestSet 29 = .ok (.iload 4, 2) := by decide +kernel
theorem dX2_cheapestSet_31 : decode cX2_cheapestSet 31 = .ok (.if_icmp .ge 32, 3) := by decide +kernel
theorem dX2_cheapestSet_34 : decode cX2_cheapestSet 34 = .ok (.aload_n 0, 1) := by decide +kernel
theorem dX2_cheapestSet_35 : decode cX2_cheapestSet 35 = .ok (.iload 5, 2) := by decide +kernel
theorem dX2_cheapestSet_37 : decode cX2_cheapestSet 37 = .ok (.iconst 1, 1) := by decide +kernel
theorem dX2_cheapestSet_38 : decode cX2_cheapestSet 38 = .ok (.invokevirtual 18, 3) := by decide +kernel
theorem dX2_cheapestSet_41 : decode cX2_cheapestSet 41 = .ok (.iload_n 1, 1) := by decide +kernel
theorem dX2_cheapestSet_42 : decode cX2_cheapestSet 42 = .ok (.if_icmp .lt 21, 3) := by decide +kernel
theorem dX2_cheapestSet_45 : decode cX2_cheapestSet 45 = .ok (.aload_n 0, 1) := by decide +kernel
theorem dX2_cheapestSet_46 : decode cX2_cheapestSet 46 = .ok (.iload 5, 2) := by decide +kernel
theorem dX2_cheapestSet_48 : decode cX2_cheapestSet 48 = .ok (.iconst 2, 1) := by decide +kernel
theorem dX2_cheapestSet_49 : decode cX2_cheapestSet 49 = .ok (.invokevirtual 18, 3) := by decide +kernel
theorem dX2_cheapestSet_52 : decode cX2_cheapestSet 52 = .ok (.iload_n 2, 1) := by decide +kernel
theorem dX2_cheapestSet_53 : decode cX2_cheapestSet 53 = .ok (.if_icmp .lt 10, 3) := by decide +kernel
theorem dX2_cheapestSet_56 : decode cX2_cheapestSet 56 = .ok (.iload 5, 2) := by decide +kernel
theorem dX2_cheapestSet_58 : decode cX2_cheapestSet 58 = .ok (.istore_n 3, 1) := by decide +kernel
theorem dX2_cheapestSet_59 : decode cX2_cheapestSet 59 = .ok (.iload 6, 2) := by decide +kernel
theorem dX2_cheapestSet_61 : decode cX2_cheapestSet 61 = .ok (.istore 4, 2) := by decide +kernel
theorem dX2_cheapestSet_63 : decode cX2_cheapestSet 63 = .ok (.iinc 5 1, 3) := by decide +kernel
theorem dX2_cheapestSet_66 : decode cX2_cheapestSet 66 = .ok (.goto (-56), 3) := by decide +kernel
theorem dX2_cheapestSet_69 : decode cX2_cheapestSet 69 = .ok (.iload_n 3, 1) := by decide +kernel
theorem dX2_cheapestSet_70 : decode cX2_cheapestSet 70 = .ok (.ireturn, 1) := by decide +kernel
set_option maxRecDepth 20000 in
theorem ggX2_cheapestSet_X2_sumOf : GoodIn wsX2_cheapestSet wsX2_sumOf := goodIn_r _ [6, 7, 8] (by decide +kernel) (by decide +kernel)
set_option maxRecDepth 20000 in
theorem gX2_cheapestSet_X2_sumOf : GoodIn wsX2_cheapestSet (wsV RX2 18 RX2 yX2_sumOf wsX2_sumOf) := goodIn_app (goodIn_of _ (by decide +kernel)) ggX2_cheapestSet_X2_sumOf
theorem wX2_cheapestSet_18 : CWV mX2_cheapestSet 18 mX2_sumOf 2 := ⟨gX2_cheapestSet_X2_sumOf, ⟨_, rfl⟩, rfl, by decide +kernel, by decide +kernel, by decide +kernel⟩
abbrev mJ6_bitCount_0f7a4 : mT := (yJ6_bitCount_0f7a4, RJ6, cJ6_bitCount_0f7a4, 1, (some .int), wsJ6_bitCount_0f7a4)
abbrev rJ6_bitCount_0f7a4 : Room := { frames := 0, cells := 0, slots := 0, locals := 0 }
theorem dJ6_bitCount_0f7a4_0 : decode cJ6_bitCount_0f7a4 0 = .ok (.iload_n 0, 1) := by decide +kernel
theorem dJ6_bitCount_0f7a4_1 : decode cJ6_bitCount_0f7a4 1 = .ok (.iload_n 0, 1) := by decide +kernel
theorem dJ6_bitCount_0f7a4_2 : decode cJ6_bitCount_0f7a4 2 = .ok (.iconst 1, 1) := by decide +kernel
theorem dJ6_bitCount_0f7a4_3 : decode cJ6_bitCount_0f7a4 3 = .ok (.iushr, 1) := by decide +kernel
theorem dJ6_bitCount_0f7a4_4 : decode cJ6_bitCount_0f7a4 4 = .ok (.ldc_w 265, 3) := by decide +kernel
theorem dJ6_bitCount_0f7a4_7 : decode cJ6_bitCount_0f7a4 7 = .ok (.iand, 1) := by decide +kernel
theorem dJ6_bitCount_0f7a4_8 : decode cJ6_bitCount_0f7a4 8 = .ok (.isub, 1) := by decide +kernel
theorem dJ6_bitCount_0f7a4_9 : decode cJ6_bitCount_0f7a4 9 = .ok (.istore_n 0, 1) := by decide +kernel
theorem dJ6_bitCount_0f7a4_10 : decode cJ6_bitCount_0f7a4 10 = .ok (.iload_n 0, 1) := by decide +kernel
theorem dJ6_bitCount_0f7a4_11 : decode cJ6_bitCount_0f7a4 11 = .ok (.ldc_w 266, 3) := by decide +kernel
theorem dJ6_bitCount_0f7a4_14 : decode cJ6_bitCount_0f7a4 14 = .ok (.iand, 1) := by decide +kernel
theorem dJ6_bitCount_0f7a4_15 : decode cJ6_bitCount_0f7a4 15 = .ok (.iload_n 0, 1) := by decide +kernel
theorem dJ6_bitCount_0f7a4_16 : decode cJ6_bitCount_0f7a4 16 = .ok (.iconst 2, 1) := by decide +kernel
theorem dJ6_bitCount_0f7a4_17 : decode cJ6_bitCount_0f7a4 17 = .ok (.iushr, 1) := by decide +kernel
theorem dJ6_bitCount_0f7a4_18 : decode cJ6_bitCount_0f7a4 18 = .ok (.ldc_w 266, 3) := by decide +kernel
theorem dJ6_bitCount_0f7a4_21 : decode cJ6_bitCount_0f7a4 21 = .ok (.iand, 1) := by decide +kernel
theorem dJ6_bitCount_0f7a4_22 : decode cJ6_bitCount_0f7a4 22 = .ok (.iadd, 1) := by decide +kernel
theorem dJ6_bitCount_0f7a4_23 : decode cJ6_bitCount_0f7a4 23 = .ok (.istore_n 0, 1) := by decide +kernel
theorem dJ6_bitCount_0f7a4_24 : decode cJ6_bitCount_0f7a4 24 = .ok (.iload_n 0, 1) := by decide +kernel
theorem dJ6_bitCount_0f7a4_25 : decode cJ6_bitCount_0f7a4 25 = .ok (.iload_n 0, 1) := by decide +kernel
theorem dJ6_bitCount_0f7a4_26 : decode cJ6_bitCount_0f7a4 26 = .ok (.iconst 4, 1) := by decide +kernel
theorem dJ6_bitCount_0f7a4_27 : decode cJ6_bitCount_0f7a4 27 = .ok (.iushr, 1) := by decide +kernel
theorem dJ6_bitCount_0f7a4_28 : decode cJ6_bitCount_0f7a4 28 = .ok (.iadd, 1) := by decide +kernel
theorem dJ6_bitCount_0f7a4_29 : decode cJ6_bitCount_0f7a4 29 = .ok (.ldc_w 267, 3) := by decide +kernel
theorem dJ6_bitCount_0f7a4_32 : decode cJ6_bitCount_0f7a4 32 = .ok (.iand, 1) := by decide +kernel
theorem dJ6_bitCount_0f7a4_33 : decode cJ6_bitCount_0f7a4 33 = .ok (.istore_n 0, 1) := by decide +kernel
theorem dJ6_bitCount_0f7a4_34 : decode cJ6_bitCount_0f7a4 34 = .ok (.iload_n 0, 1) := by decide +kernel
theorem dJ6_bitCount_0f7a4_35 : decode cJ6_bitCount_0f7a4 35 = .ok (.iload_n 0, 1) := by decide +kernel
theorem dJ6_bitCount_0f7a4_36 : decode cJ6_bitCount_0f7a4 36 = .ok (.bipush 8, 2) := by decide +kernel
theorem dJ6_bitCount_0f7a4_38 : decode cJ6_bitCount_0f7a4 38 = .ok (.iushr, 1) := by decide +kernel
theorem dJ6_bitCount_0f7a4_39 : decode cJ6_bitCount_0f7a4 39 = .ok (.iadd, 1) := by decide +kernel
theorem dJ6_bitCount_0f7a4_40 : decode cJ6_bitCount_0f7a4 40 = .ok (.istore_n 0, 1) := by decide +kernel
theorem dJ6_bitCount_0f7a4_41 : decode cJ6_bitCount_0f7a4 41 = .ok (.iload_n 0, 1) := by decide +kernel
theorem dJ6_bitCount_0f7a4_42 : decode cJ6_bitCount_0f7a4 42 = .ok (.iload_n 0, 1) := by decide +kernel
theorem dJ6_bitCount_0f7a4_43 : decode cJ6_bitCount_0f7a4 43 = .ok (.bipush 16, 2) := by decide +kernel
theorem dJ6_bitCount_0f7a4_45 : decode cJ6_bitCount_0f7a4 45 = .ok (.iushr, 1) := by decide +kernel
theorem dJ6_bitCount_0f7a4_46 : decode cJ6_bitCount_0f7a4 46 = .ok (.iadd, 1) := by decide +kernel
theorem dJ6_bitCount_0f7a4_47 : decode cJ6_bitCount_0f7a4 47 = .ok (.istore_n 0, 1) := by decide +kernel
theorem dJ6_bitCount_0f7a4_48 : decode cJ6_bitCount_0f7a4 48 = .ok (.iload_n 0, 1) := by decide +kernel
theorem dJ6_bitCount_0f7a4_49 : decode cJ6_bitCount_0f7a4 49 = .ok (.bipush 63, 2) := by decide +kernel
theorem dJ6_bitCount_0f7a4_51 : decode cJ6_bitCount_0f7a4 51 = .ok (.iand, 1) := by decide +kernel
theorem dJ6_bitCount_0f7a4_52 : decode cJ6_bitCount_0f7a4 52 = .ok (.ireturn, 1) := by decide +kernel
abbrev mX6_everybody : mT := (yX6_everybody, RX6, cX6_everybody, 1, (some .int), wsX6_everybody)
abbrev rX6_everybody : Room := { frames := 0, cells := 0, slots := 0, locals := 0 }
theorem dX6_everybody_0 : decode cX6_everybody 0 = .ok (.iconst 1, 1) := by decide +kernel
theorem dX6_everybody_1 : decode cX6_everybody 1 = .ok (.aload_n 0, 1) := by decide +kernel
theorem dX6_everybody_2 : decode cX6_everybody 2 = .ok (.getfield 24, 3) := by decide +kernel
theorem dX6_everybody_5 : decode cX6_everybody 5 = .ok (.ishl, 1) := by decide +kernel
theorem dX6_everybody_6 : decode cX6_everybody 6 = .ok (.iconst 1, 1) := by decide +kernel
theorem dX6_everybody_7 : decode cX6_everybody 7 = .ok (.isub, 1) := by decide +kernel
theorem dX6_everybody_8 : decode cX6_everybody 8 = .ok (.ireturn, 1) := by decide +kernel
theorem iX6_everybody_6 : ∀ w ∈ wsX60, w ∈ wsX6_everybody := fun w h => List.mem_cons_of_mem _ (List.mem_append_right _ h)
theorem fX6_everybody_24 : FL mX6_everybody 24 6 4 := ⟨_, _, _, rfl, by decide, iX6_everybody_6, by decide +kernel⟩
abbrev mX6_afterRound : mT := (yX6_afterRound, RX6, cX6_afterRound, 5, (some .int), wsX6_afterRound)
abbrev rX6_afterRound : Room := { frames := 1, cells := 0, slots := 0, locals := 20 }
theorem dX6_afterRound_0 : decode cX6_afterRound 0 = .ok (.iload_n 1, 1) := by decide +kernel
theorem dX6_afterRound_1 : decode cX6_afterRound 1 = .ok (.invokestatic 28, 3) := by decide +kernel
theorem dX6_afterRound_4 : decode cX6_afterRound 4 = .ok (.istore_n 2, 1) := by decide +kernel
theorem dX6_afterRound_5 : decode cX6_afterRound 5 = .ok (.iload_n 1, 1) := by decide +kernel
theorem dX6_afterRound_6 : decode cX6_afterRound 6 = .ok (.istore_n 3, 1) := by decide +kernel
theorem dX6_afterRound_7 : decode cX6_afterRound 7 = .ok (.iconst 0, 1) := by decide +kernel
theorem dX6_afterRound_8 : decode cX6_afterRound 8 = .ok (.istore 4, 2) := by decide +kernel
theorem dX6_afterRound_10 : decode cX6_afterRound 10 = .ok (.iload 4, 2) := by decide +kernel
theorem dX6_afterRound_12 : decode cX6_afterRound 12 = .ok (.aload_n 0, 1) := by decide +kernel
theorem dX6_afterRound_13 : decode cX6_afterRound 13 = .ok (.getfield 24, 3) := by decide +kernel
theorem dX6_afterRound_16 : decode cX6_afterRound 16 = .ok (.if_icmp .ge 27, 3) := by decide +kernel
theorem dX6_afterRound_19 : decode cX6_afterRound 19 = .ok (.iload_n 2, 1) := by decide +kernel
theorem dX6_afterRound_20 : decode cX6_afterRound 20 = .ok (.aload_n 0, 1) := by decide +kernel
theorem dX6_afterRound_21 : decode cX6_afterRound 21 = .ok (.getfield 21, 3) := by decide +kernel
theorem dX6_afterRound_24 : decode cX6_afterRound 24 = .ok (.iload 4, 2) := by decide +kernel
theorem dX6_afterRound_26 : decode cX6_afterRound 26 = .ok (.iaload, 1) := by decide +kernel
theorem dX6_afterRound_27 : decode cX6_afterRound 27 = .ok (.if_icmp .lt 10, 3) := by decide +kernel
theorem dX6_afterRound_30 : decode cX6_afterRound 30 = .ok (.iload_n 3, 1) := by decide +kernel
theorem dX6_afterRound_31 : decode cX6_afterRound 31 = .ok (.iconst 1, 1) := by decide +kernel
theorem dX6_afterRound_32 : decode cX6_afterRound 32 = .ok (.iload 4, 2) := by decide +kernel
theorem dX6_afterRound_34 : decode cX6_afterRound 34 = .ok (.ishl, 1) := by decide +kernel
theorem dX6_afterRound_35 : decode cX6_afterRound 35 = .ok (.ior, 1) := by decide +kernel
theorem dX6_afterRound_36 : decode cX6_afterRound 36 = .ok (.istore_n 3, 1) := by decide +kernel
theorem dX6_afterRound_37 : decode cX6_afterRound 37 = .ok (.iinc 4 1, 3) := by decide +kernel
theorem dX6_afterRound_40 : decode cX6_afterRound 40 = .ok (.goto (-30), 3) := by decide +kernel
theorem dX6_afterRound_43 : decode cX6_afterRound 43 = .ok (.iload_n 3, 1) := by decide +kernel
theorem dX6_afterRound_44 : decode cX6_afterRound 44 = .ok (.ireturn, 1) := by decide +kernel
theorem iX6_afterRound_6 : ∀ w ∈ wsX60, w ∈ wsX6_afterRound := fun w h => List.mem_cons_of_mem _ (List.mem_append_right _ h)
theorem fX6_afterRound_21 : FL mX6_afterRound 21 6 3 := ⟨_, _, _, rfl, by decide, iX6_afterRound_6, by decide +kernel⟩
theorem fX6_afterRound_24 : FL mX6_afterRound 24 6 4 := ⟨_, _, _, rfl, by decide, iX6_afterRound_6, by decide +kernel⟩
set_option maxRecDepth 20000 in
theorem ggX6_afterRound_J6_bitCount_0f7a4 : GoodIn wsX6_afterRound wsJ6_bitCount_0f7a4 := goodIn_r _ [6, 7, 8, 9] (by decide +kernel) (by decide +kernel)
set_option maxRecDepth 20000 in
theorem gX6_afterRound_J6_bitCount_0f7a4 : GoodIn wsX6_afterRound (va_wsS RX6 28 yJ6_bitCount_0f7a4 wsJ6_bitCount_0f7a4) := goodIn_app (goodIn_of _ (by decide +kernel)) ggX6_afterRound_J6_bitCount_0f7a4
theorem wX6_afterRound_28 : CWS mX6_afterRound 28 mJ6_bitCount_0f7a4 1 := ⟨gX6_afterRound_J6_bitCount_0f7a4, ⟨_, rfl⟩, by decide +kernel, by decide +kernel, by decide +kernel⟩
abbrev mX6_takersFrom : mT := (yX6_takersFrom, RX6, cX6_takersFrom, 4, (some .int), wsX6_takersFrom)
abbrev rX6_takersFrom : Room := { frames := 2, cells := 0, slots := 0, locals := 44 }
theorem dX6_takersFrom_0 : decode cX6_takersFrom 0 = .ok (.iload_n 1, 1) := by decide +kernel
theorem dX6_takersFrom_1 : decode cX6_takersFrom 1 = .ok (.aload_n 0, 1) := by decide +kernel
theorem dX6_takersFrom_2 : decode cX6_takersFrom 2 = .ok (.invokevirtual 34, 3) := by decide +kernel
theorem dX6_takersFrom_5 : decode cX6_takersFrom 5 = .ok (.iand, 1) := by decide +kernel
theorem dX6_takersFrom_6 : decode cX6_takersFrom 6 = .ok (.istore_n 2, 1) := by decide +kernel
theorem dX6_takersFrom_7 : decode cX6_takersFrom 7 = .ok (.iconst 0, 1) := by decide +kernel
theorem dX6_takersFrom_8 : decode cX6_takersFrom 8 = .ok (.istore_n 3, 1) := by decide +kernel
theorem dX6_takersFrom_9 : decode cX6_takersFrom 9 = .ok (.iload_n 3, 1) := by decide +kernel
theorem dX6_takersFrom_10 : decode cX6_takersFrom 10 = .ok (.bipush 8, 2) := by decide +kernel
theorem dX6_takersFrom_12 : decode cX6_takersFrom 12 = .ok (.if_icmp .ge 15, 3) := by decide +kernel
theorem dX6_takersFrom_15 : decode cX6_takersFrom 15 = .ok (.aload_n 0, 1) := by decide +kernel
theorem dX6_takersFrom_16 : decode cX6_takersFrom 16 = .ok (.iload_n 2, 1) := by decide +kernel
theorem dX6_takersFrom_17 : decode cX6_takersFrom 17 = .ok (.invokevirtual 38, 3) := by decide +kernel
theorem dX6_takersFrom_20 : decode cX6_takersFrom 20 = .ok (.istore_n 2, 1) := by decide +kernel
theorem dX6_takersFrom_21 : decode cX6_takersFrom 21 = .ok (.iinc 3 1, 3) := by decide +kernel
theorem dX6_takersFrom_24 : decode cX6_takersFrom 24 = .ok (.goto (-15), 3) := by decide +kernel
theorem dX6_takersFrom_27 : decode cX6_takersFrom 27 = .ok (.iload_n 2, 1) := by decide +kernel
theorem dX6_takersFrom_28 : decode cX6_takersFrom 28 = .ok (.ireturn, 1) := by decide +kernel
set_option maxRecDepth 20000 in
theorem ggX6_takersFrom_X6_everybody : GoodIn wsX6_takersFrom wsX6_everybody := goodIn_r _ [5, 6, 19, 20, 21, 22, 23] (by decide +kernel) (by decide +kernel)
set_option maxRecDepth 20000 in
theorem gX6_takersFrom_X6_everybody : GoodIn wsX6_takersFrom (wsV RX6 34 RX6 yX6_everybody wsX6_everybody) := goodIn_app (goodIn_of _ (by decide +kernel)) ggX6_takersFrom_X6_everybody
theorem wX6_takersFrom_34 : CWV mX6_takersFrom 34 mX6_everybody 0 := ⟨gX6_takersFrom_X6_everybody, ⟨_, rfl⟩, rfl, by decide +kernel, by decide +kernel, by decide +kernel⟩
set_option maxRecDepth 20000 in
theorem ggX6_takersFrom_X6_afterRound : GoodIn wsX6_takersFrom wsX6_afterRound := goodIn_r _ [10, 6, 11, 12, 13, 14, 15, 16, 17, 18, 19, 20, 21, 22, 23] (by decide +kernel) (by decide +kernel)
set_option maxRecDepth 20000 in
theorem gX6_takersFrom_X6_afterRound : GoodIn wsX6_takersFrom (wsV RX6 38 RX6 yX6_afterRound wsX6_afterRound) := goodIn_app (goodIn_of _ (by decide +kernel)) ggX6_takersFrom_X6_afterRound
theorem wX6_takersFrom_38 : CWV mX6_takersFrom 38 mX6_afterRound 1 := ⟨gX6_takersFrom_X6_afterRound, ⟨_, rfl⟩, rfl, by decide +kernel, by decide +kernel, by decide +kernel⟩
abbrev mX6_roundsFrom : mT := (yX6_roundsFrom, RX6, cX6_roundsFrom, 5, (some .int), wsX6_roundsFrom)
abbrev rX6_roundsFrom : Room := { frames := 2, cells := 0, slots := 0, locals := 44 }
theorem dX6_roundsFrom_0 : decode cX6_roundsFrom 0 = .ok (.iload_n 1, 1) := by decide +kernel
theorem dX6_roundsFrom_1 : decode cX6_roundsFrom 1 = .ok (.aload_n 0, 1) := by decide +kernel
theorem dX6_roundsFrom_2 : decode cX6_roundsFrom 2 = .ok (.invokevirtual 34, 3) := by decide +kernel
theorem dX6_roundsFrom_5 : decode cX6_roundsFrom 5 = .ok (.iand, 1) := by decide +kernel
theorem dX6_roundsFrom_6 : decode cX6_roundsFrom 6 = .ok (.istore_n 2, 1) := by decide +kernel
theorem dX6_roundsFrom_7 : decode cX6_roundsFrom 7 = .ok (.iconst 0, 1) := by decide +kernel
theorem dX6_roundsFrom_8 : decode cX6_roundsFrom 8 = .ok (.istore_n 3, 1) := by decide +kernel
theorem dX6_roundsFrom_9 : decode cX6_roundsFrom 9 = .ok (.iload_n 3, 1) := by decide +kernel
theorem dX6_roundsFrom_10 : decode cX6_roundsFrom 10 = .ok (.bipush 8, 2) := by decide +kernel
theorem dX6_roundsFrom_12 : decode cX6_roundsFrom 12 = .ok (.if_icmp .ge 27, 3) := by decide +kernel
theorem dX6_roundsFrom_15 : decode cX6_roundsFrom 15 = .ok (.aload_n 0, 1) := by decide +kernel
theorem dX6_roundsFrom_16 : decode cX6_roundsFrom 16 = .ok (.iload_n 2, 1) := by decide +kernel
theorem dX6_roundsFrom_17 : decode cX6_roundsFrom 17 = .ok (.invokevirtual 38, 3) := by decide +kernel
theorem dX6_roundsFrom_20 : decode cX6_roundsFrom 20 = .ok (.istore 4, 2) := by decide +kernel
theorem dX6_roundsFrom_22 : decode cX6_roundsFrom 22 = .ok (.iload 4, 2) := by decide +kernel
theorem dX6_roundsFrom_24 : decode cX6_roundsFrom 24 = .ok (.iload_n 2, 1) := by decide +kernel
theorem dX6_roundsFrom_25 : decode cX6_roundsFrom 25 = .ok (.if_icmp .ne 5, 3) := by decide +kernel
theorem dX6_roundsFrom_28 : decode cX6_roundsFrom 28 = .ok (.iload_n 3, 1) := by decide +kernel
theorem dX6_roundsFrom_29 : decode cX6_roundsFrom 29 = .ok (.ireturn, 1) := by decide +kernel
theorem dX6_roundsFrom_30 : decode cX6_roundsFrom 30 = .ok (.iload 4, 2) := by decide +kernel
theorem dX6_roundsFrom_32 : decode cX6_roundsFrom 32 = .ok (.istore_n 2, 1) := by decide +kernel
theorem dX6_roundsFrom_33 : decode cX6_roundsFrom 33 = .ok (.iinc 3 1, 3) := by decide +kernel
theorem dX6_roundsFrom_36 : decode cX6_roundsFrom 36 = .ok (.goto (-27), 3) := by decide +kernel
theorem dX6_roundsFrom_39 : decode cX6_roundsFrom 39 = .ok (.bipush 8, 2) := by decide +kernel
theorem dX6_roundsFrom_41 : decode cX6_roundsFrom 41 = .ok (.ireturn, 1) := by decide +kernel
set_option maxRecDepth 20000 in
theorem ggX6_roundsFrom_X6_everybody : GoodIn wsX6_roundsFrom wsX6_everybody := goodIn_r _ [5, 6, 19, 20, 21, 22, 23] (by decide +kernel) (by decide +kernel)
set_option maxRecDepth 20000 in
theorem gX6_roundsFrom_X6_everybody : GoodIn wsX6_roundsFrom (wsV RX6 34 RX6 yX6_everybody wsX6_everybody) := goodIn_app (goodIn_of _ (by decide +kernel)) ggX6_roundsFrom_X6_everybody
theorem wX6_roundsFrom_34 : CWV mX6_roundsFrom 34 mX6_everybody 0 := ⟨gX6_roundsFrom_X6_everybody, ⟨_, rfl⟩, rfl, by decide +kernel, by decide +kernel, by decide +kernel⟩
set_option maxRecDepth 20000 in
theorem ggX6_roundsFrom_X6_afterRound : GoodIn wsX6_roundsFrom wsX6_afterRound := goodIn_r _ [10, 6, 11, 12, 13, 14, 15, 16, 17, 18, 19, 20, 21, 22, 23] (by decide +kernel) (by decide +kernel)
set_option maxRecDepth 20000 in
theorem gX6_roundsFrom_X6_afterRound : GoodIn wsX6_roundsFrom (wsV RX6 38 RX6 yX6_afterRound wsX6_afterRound) := goodIn_app (goodIn_of _ (by decide +kernel)) ggX6_roundsFrom_X6_afterRound
theorem wX6_roundsFrom_38 : CWV mX6_roundsFrom 38 mX6_afterRound 1 := ⟨gX6_roundsFrom_X6_afterRound, ⟨_, rfl⟩, rfl, by decide +kernel, by decide +kernel, by decide +kernel⟩
abbrev mX6_leastSeeds : mT := (yX6_leastSeeds, RX6, cX6_leastSeeds, 4, (some .int), wsX6_leastSeeds)
abbrev rX6_leastSeeds : Room := { frames := 3, cells := 0, slots := 0, locals := 67 }
theorem dX6_leastSeeds_0 : decode cX6_leastSeeds 0 = .ok (.aload_n 0, 1) := by decide +kernel
theorem dX6_leastSeeds_1 : decode cX6_leastSeeds 1 = .ok (.invokevirtual 34, 3) := by decide +kernel
theorem dX6_leastSeeds_4 : decode cX6_leastSeeds 4 = .ok (.istore_n 1, 1) := by decide +kernel
theorem dX6_leastSeeds_5 : decode cX6_leastSeeds 5 = .ok (.iconst 0, 1) := by decide +kernel
theorem dX6_leastSeeds_6 : decode cX6_leastSeeds 6 = .ok (.istore_n 2, 1) := by decide +kernel
theorem dX6_leastSeeds_7 : decode cX6_leastSeeds 7 = .ok (.iload_n 2, 1) := by decide +kernel
theorem dX6_leastSeeds_8 : decode cX6_leastSeeds 8 = .ok (.aload_n 0, 1) := by decide +kernel
theorem dX6_leastSeeds_9 : decode cX6_leastSeeds 9 = .ok (.invokevirtual 34, 3) := by decide +kernel
theorem dX6_leastSeeds_12 : decode cX6_leastSeeds 12 = .ok (.if_icmp .ge 44, 3) := by decide +kernel
theorem dX6_leastSeeds_15 : decode cX6_leastSeeds 15 = .ok (.iload_n 2, 1) := by decide +kernel
theorem dX6_leastSeeds_16 : decode cX6_leastSeeds 16 = .ok (.invokestatic 28, 3) := by decide +kernel
theorem dX6_leastSeeds_19 : decode cX6_leastSeeds 19 = .ok (.iload_n 1, 1) := by decide +kernel
theorem dX6_leastSeeds_20 : decode cX6_leastSeeds 20 = .ok (.invokestatic 28, 3) := by decide +kernel
theorem dX6_leastSeeds_23 : decode cX6_leastSeeds 23 = .ok (.if_icmp .ge 7, 3) := by decide +kernel
theorem dX6_leastSeeds_26 : decode cX6_leastSeeds 26 = .ok (.iconst 1, 1) := by decide +kernel
theorem dX6_leastSeeds_27 : decode cX6_leastSeeds 27 = .ok (.goto 4, 3) := by decide +kernel
theorem dX6_leastSeeds_30 : decode cX6_leastSeeds 30 = .ok (.iconst 0, 1) := by decide +kernel
theorem dX6_leastSeeds_31 : decode cX6_leastSeeds 31 = .ok (.istore_n 3, 1) := by decide +kernel
theorem dX6_leastSeeds_32 : decode cX6_leastSeeds 32 = .ok (.iload_n 3, 1) := by decide +kernel
theorem dX6_leastSeeds_33 : decode cX6_leastSeeds 33 = .ok (.ifCond .eq 17, 3) := by decide +kernel
theorem dX6_leastSeeds_36 : decode cX6_leastSeeds 36 = .ok (.aload_n 0, 1) := by decide +kernel
theorem dX6_leastSeeds_37 : decode cX6_leastSeeds 37 = .ok (.iload_n 2, 1) := by decide +kernel
theorem dX6_leastSeeds_38 : decode cX6_leastSeeds 38 = .ok (.invokevirtual 41, 3) := by decide +kernel
theorem dX6_leastSeeds_41 : decode cX6_leastSeeds 41 = .ok (.aload_n 0, 1) := by decide +kernel
theorem dX6_leastSeeds_42 : decode cX6_leastSeeds 42 = .ok (.invokevirtual 34, 3) := by decide +kernel
theorem dX6_leastSeeds_45 : decode cX6_leastSeeds 45 = .ok (.if_icmp .ne 5, 3) := by decide +kernel
theorem dX6_leastSeeds_48 : decode cX6_leastSeeds 48 = .ok (.iload_n 2, 1) := by decide +kernel
theorem dX6_leastSeeds_49 : decode cX6_leastSeeds 49 = .ok (.istore_n 1, 1) := by decide +kernel
theorem dX6_leastSeeds_50 : decode cX6_leastSeeds 50 = .ok (.iinc 2 1, 3) := by decide +kernel
theorem dX6_leastSeeds_53 : decode cX6_leastSeeds 53 = .ok (.goto (-46), 3) := by decide +kernel
theorem dX6_leastSeeds_56 : decode cX6_leastSeeds 56 = .ok (.iload_n 1, 1) := by decide +kernel
theorem dX6_leastSeeds_57 : decode cX6_leastSeeds 57 = .ok (.ireturn, 1) := by decide +kernel
set_option maxRecDepth 20000 in
theorem ggX6_leastSeeds_J6_bitCount_0f7a4 : GoodIn wsX6_leastSeeds wsJ6_bitCount_0f7a4 := goodIn_r _ [10, 11, 12, 13] (by decide +kernel) (by decide +kernel)
set_option maxRecDepth 20000 in
theorem gX6_leastSeeds_J6_bitCount_0f7a4 : GoodIn wsX6_leastSeeds (va_wsS RX6 28 yJ6_bitCount_0f7a4 wsJ6_bitCount_0f7a4) := goodIn_app (goodIn_of _ (by decide +kernel)) ggX6_leastSeeds_J6_bitCount_0f7a4
theorem wX6_leastSeeds_28 : CWS mX6_leastSeeds 28 mJ6_bitCount_0f7a4 1 := ⟨gX6_leastSeeds_J6_bitCount_0f7a4, ⟨_, rfl⟩, by decide +kernel, by decide +kernel, by decide +kernel⟩
set_option maxRecDepth 20000 in
theorem ggX6_leastSeeds_X6_everybody : GoodIn wsX6_leastSeeds wsX6_everybody := goodIn_r _ [5, 6, 23, 24, 25, 26, 27] (by decide +kernel) (by decide +kernel)
set_option maxRecDepth 20000 in
theorem gX6_leastSeeds_X6_everybody : GoodIn wsX6_leastSeeds (wsV RX6 34 RX6 yX6_everybody wsX6_everybody) := goodIn_app (goodIn_of _ (by decide +kernel)) ggX6_leastSeeds_X6_everybody
theorem wX6_leastSeeds_34 : CWV mX6_leastSeeds 34 mX6_everybody 0 := ⟨gX6_leastSeeds_X6_everybody, ⟨_, rfl⟩, rfl, by decide +kernel, by decide +kernel, by decide +kernel⟩
set_option maxRecDepth 20000 in
theorem ggX6_leastSeeds_X6_takersFrom : GoodIn wsX6_leastSeeds wsX6_takersFrom := goodIn_r _ [17, 1, 2, 3, 4, 5, 6, 18, 19, 20, 21, 22, 7, 8, 9, 10, 11, 12, 13, 23, 24, 25, 26, 27] (by decide +kernel) (by decide +kernel)
set_option maxRecDepth 20000 in
theorem gX6_leastSeeds_X6_takersFrom : GoodIn wsX6_leastSeeds (wsV RX6 41 RX6 yX6_takersFrom wsX6_takersFrom) := goodIn_app (goodIn_of _ (by decide +kernel)) ggX6_leastSeeds_X6_takersFrom
theorem wX6_leastSeeds_41 : CWV mX6_leastSeeds 41 mX6_takersFrom 1 := ⟨gX6_leastSeeds_X6_takersFrom, ⟨_, rfl⟩, rfl, by decide +kernel, by decide +kernel, by decide +kernel⟩
def tuL (j : Nat) : Int32 := ([0, 0, 0, 0, 0, 1] : List Int32).getD j 0
def tuM (j : Nat) : Int32 := ([9, 99, 99, 10, 20, 99] : List Int32).getD j 0
/-- a sum of a set of laws: the first k of them -/
def lawS (f : Nat → Int32) (set : Int32) (what : Nat) : Nat → Int32
  | 0 => 0
  | k + 1 => if (set >>> (nI k &&& 31)) &&& 1 = 1 then lawS f set what k + f (k * 3 + what) else lawS f set what k
def xCh (f : Nat → Int32) (less more : Int32) : Nat → Int32 × Int32
  | 0 => (-9, 2147483647)
  | k + 1 => if lawS f (nI k) 0 9 < (xCh f less more k).2 ∧ less ≤ lawS f (nI k) 1 9 ∧ more ≤ lawS f (nI k) 2 9 then (nI k, lawS f (nI k) 0 9) else xCh f less more k
def us (x y : Int32) : Int32 := (x.toUInt32 >>> (y.toUInt32 &&& Int32.toUInt32 31)).toInt32
def bc1 (x : Int32) : Int32 := x - (us x 1 &&& 1431655765)
def bc2 (x : Int32) : Int32 := (x &&& 858993459) + (us x 2 &&& 858993459)
def bc3 (x : Int32) : Int32 := (x + us x 4) &&& 252645135
def bc4 (x : Int32) : Int32 := x + us x 8
def bc5 (x : Int32) : Int32 := x + us x 16
/-- Integer.bitCount -/
def bcI (x : Int32) : Int32 := bc5 (bc4 (bc3 (bc2 (bc1 x)))) &&& 63
/-- everybody of n people -/
def evI (n : Nat) : Int32 := (1 <<< (nI n &&& 31)) - 1
def afS (o : Nat → Int32) (num t : Int32) : Nat → Int32
  | 0 => t
  | k + 1 => if num < o k then afS o num t k else afS o num t k ||| (1 <<< (nI k &&& 31))
/-- who takes it behind one round more -/
def afR (o : Nat → Int32) (n : Nat) (t : Int32) : Int32 := afS o (bcI t) t n
def takS (o : Nat → Int32) (n : Nat) (t : Int32) : Nat → Int32
  | 0 => t
  | k + 1 => afR o n (takS o n t k)
def takF (o : Nat → Int32) (n : Nat) (s : Int32) : Int32 := takS o n (s &&& evI n) 8
def rndS (o : Nat → Int32) (n : Nat) : Nat → Nat → Int32 → Int32
  | 0, _, _ => 8
  | d + 1, k, t => if afR o n t = t then nI k else rndS o n d (k + 1) (afR o n t)
def rndF (o : Nat → Int32) (n : Nat) (s : Int32) : Int32 := rndS o n 8 0 (s &&& evI n)
def lsS (o : Nat → Int32) (n : Nat) : Nat → Int32
  | 0 => evI n
  | k + 1 => if bcI (nI k) < bcI (lsS o n k) ∧ takF o n (nI k) = evI n then nI k else lsS o n k
section
variable {Γ : gT} {l : Launch} {as : List Nat} {h : aH} {q r : Nat} {f : Nat → Int32}
theorem c_of (hq : hat as h q (ob 7 [.ref r])) (hr : hat as h r (aI Γ 6 f)) {j : Nat} (hj : j < 6) : Det Γ l mX7_of rX7_of [.ref q, .int (nI j)] as h (some (.int (f j))) h := by
  refine Con.of (by decide +kernel) rfl rfl (Nat.le_of_ble_eq_true rfl) ?_
  refine q_aload_n dX7_of_0 rfl rfl ?_
  refine q_get dX7_of_1 fX7_of_9 (hq) rfl ?_
  refine q_iload_n dX7_of_4 rfl rfl ?_
  refine q_iald dX7_of_5 (hr) (in_nI hj (by omega)) ?_
  exact q_iret dX7_of_6 rfl (Nat.zero_le _) (Nat.zero_le _) (⟨by rw [nI_clamp (by omega)], rfl, rfl⟩)
theorem c_tset_bad (hq : hat as h q (ob 7 [.ref r])) (hr : hat as h r (aI Γ 6 f)) {x v : Int32} (hx : x < 0 ∨ 6 ≤ x) : Det Γ l mX7_set rX7_set [.ref q, .int x, .int v] as h (some (.int (-1))) h := by
  refine Con.of (by decide +kernel) rfl rfl (Nat.le_of_ble_eq_true rfl) ?_
  refine q_iload_n dX7_set_0 rfl rfl ?_
  refine q_if_lt 31 dX7_set_1 (by decide) (fun c1 => ?_) (fun c1 => ?_)
  · refine q_iconst (v := (-1)) dX7_set_31 rfl ?_
    exact q_iret dX7_set_32 rfl (Nat.zero_le _) (Nat.zero_le _) (⟨rfl, rfl, rfl⟩)
  · refine q_iload_n dX7_set_4 rfl rfl ?_
    refine q_aload_n dX7_set_5 rfl rfl ?_
    refine q_get dX7_set_6 fX7_set_9 (hq) rfl ?_
    refine q_alen dX7_set_9 hr rfl ?_
    refine q_icmp_ge 31 dX7_set_10 (by decide) (fun c10 => ?_) (fun c10 => ?_)
    · refine q_iconst (v := (-1)) dX7_set_31 rfl ?_
      exact q_iret dX7_set_32 rfl (Nat.zero_le _) (Nat.zero_le _) (⟨rfl, rfl, rfl⟩)
    · exact absurd (hx.resolve_left c1) c10
theorem c_tset (hq : hat as h q (ob 7 [.ref r])) (hr : hat as h r (aI Γ 6 f)) {j : Nat} (hj : j < 6) {v : Int32} : Det Γ l mX7_set rX7_set [.ref q, .int (nI j), .int v] as h (some (.int (if tuL j ≤ v ∧ v ≤ tuM j then f j else -1))) (if tuL j ≤ v ∧ v ≤ tuM j then hset h r (aI Γ 6 (upd f j v)) else h) := by
  refine Con.of (by decide +kernel) rfl rfl (Nat.le_of_ble_eq_true rfl) ?_
  refine q_iload_n dX7_set_0 rfl rfl ?_
  refine q_if_lt 31 dX7_set_1 (by decide) (fun z => absurd z (nI_pos (by omega))) (fun _ => ?_)
  refine q_iload_n dX7_set_4 rfl rfl ?_
  refine q_aload_n dX7_set_5 rfl rfl ?_
  refine q_get dX7_set_6 fX7_set_9 (hq) rfl ?_
  refine q_alen dX7_set_9 hr rfl ?_
  refine q_icmp_ge 31 dX7_set_10 (by decide) (fun z => absurd z (lt_c 6 rfl hj (by omega))) (fun _ => ?_)
  refine q_iload_n dX7_set_13 rfl rfl ?_
  refine q_gets dX7_set_14 (fun _ _ e => e.2.1) (by decide +kernel) ?_
  refine q_iload_n dX7_set_17 rfl rfl ?_
  refine q_ti (v := .int (tuL j)) dX7_set_18 (fun _ _ e => e.2.2.1) (in_nI hj (by omega)) (by rw [nI_clamp (by omega)]; rfl) ?_
  refine q_icmp_lt 31 dX7_set_19 (by decide) (fun c19 => ?_) (fun c19 => ?_)
  · rw [if_neg (fun z => by first | exact absurd (Int32.not_le.mpr c19) (fun w => w z.1) | exact c28 z.2), if_neg (fun z => by first | exact absurd (Int32.not_le.mpr c19) (fun w => w z.1) | exact c28 z.2)]
    refine q_iconst (v := (-1)) dX7_set_31 rfl ?_
    exact q_iret dX7_set_32 rfl (Nat.zero_le _) (Nat.zero_le _) (⟨rfl, rfl, rfl⟩)
  · refine q_iload_n dX7_set_22 rfl rfl ?_
    refine q_gets dX7_set_23 (fun _ _ e => e.2.2.2.1) (by decide +kernel) ?_
    refine q_iload_n dX7_set_26 rfl rfl ?_
    refine q_ti (v := .int (tuM j)) dX7_set_27 (fun _ _ e => e.2.2.2.2.1) (in_nI hj (by omega)) (by rw [nI_clamp (by omega)]; rfl) ?_
    refine q_icmp_le 33 dX7_set_28 (by decide) (fun c28 => ?_) (fun c28 => ?_)
    · rw [if_pos ⟨Int32.not_lt.mp c19, c28⟩, if_pos ⟨Int32.not_lt.mp c19, c28⟩]
      refine q_aload_n dX7_set_33 rfl rfl ?_
      refine q_get dX7_set_34 fX7_set_9 (hq) rfl ?_
      refine q_iload_n dX7_set_37 rfl rfl ?_
      refine q_iald dX7_set_38 (hr) (in_nI hj (by omega)) ?_
      refine q_istore_n dX7_set_39 rfl (by decide) ?_
      refine q_aload_n dX7_set_40 rfl rfl ?_
      refine q_get dX7_set_41 fX7_set_9 (hq) rfl ?_
      refine q_iload_n dX7_set_44 rfl rfl ?_
      refine q_iload_n dX7_set_45 rfl rfl ?_
      refine q_iast dX7_set_46 (hr) (in_nI hj (by omega)) ?_
      refine q_iload_n dX7_set_47 rfl rfl ?_
      exact q_iret dX7_set_48 rfl (Nat.zero_le _) (Nat.zero_le _) (⟨by rw [nI_clamp (by omega)], rfl, by rw [nI_clamp (by omega)]⟩)
    · rw [if_neg (fun z => by first | exact absurd (Int32.not_le.mpr c19) (fun w => w z.1) | exact c28 z.2), if_neg (fun z => by first | exact absurd (Int32.not_le.mpr c19) (fun w => w z.1) | exact c28 z.2)]
      refine q_iconst (v := (-1)) dX7_set_31 rfl ?_
      exact q_iret dX7_set_32 rfl (Nat.zero_le _) (Nat.zero_le _) (⟨rfl, rfl, rfl⟩)
theorem c_forget {x0 x1 x2 x3 x4 : Int32} (hq : hat as h q (ob 3 [.int x0, .int x1, .int x2, .int x3, .int x4])) : Det Γ l mX3_forget rX3_forget [.ref q] as h none (hset h q (ob 3 [.int (-9), .int (-9), .int (-9), .int (-9), .int 0])) := by
  refine Con.of (by decide +kernel) rfl rfl (Nat.le_of_ble_eq_true rfl) ?_
  refine q_aload_n dX3_forget_0 rfl rfl ?_
  refine q_bipush (v := (-9)) dX3_forget_1 rfl ?_
  refine q_put dX3_forget_3 pX3_forget_9 (hq) rfl rfl (Nat.le_of_ble_eq_true rfl) ?_
  refine q_aload_n dX3_forget_6 rfl rfl ?_
  refine q_bipush (v := (-9)) dX3_forget_7 rfl ?_
  refine q_put dX3_forget_9 pX3_forget_15 (hat_set hq) rfl rfl (Nat.le_of_ble_eq_true rfl) ?_
  refine q_aload_n dX3_forget_12 rfl rfl ?_
  refine q_bipush (v := (-9)) dX3_forget_13 rfl ?_
  refine q_put dX3_forget_15 pX3_forget_18 (hat_set (hat_set hq)) rfl rfl (Nat.le_of_ble_eq_true rfl) ?_
  refine q_aload_n dX3_forget_18 rfl rfl ?_
  refine q_bipush (v := (-9)) dX3_forget_19 rfl ?_
  refine q_put dX3_forget_21 pX3_forget_21 (hat_set (hat_set (hat_set hq))) rfl rfl (Nat.le_of_ble_eq_true rfl) ?_
  refine q_aload_n dX3_forget_24 rfl rfl ?_
  refine q_iconst (v := 0) dX3_forget_25 rfl ?_
  refine q_put dX3_forget_26 pX3_forget_24 (hat_set (hat_set (hat_set (hat_set hq)))) rfl rfl (Nat.le_of_ble_eq_true rfl) ?_
  exact q_vret dX3_forget_29 rfl (Nat.zero_le _) (Nat.zero_le _) (⟨rfl, rfl, by rw [hset_hset, hset_hset, hset_hset, hset_hset]; rfl⟩)
theorem c_note {x0 x1 x2 x3 x4 y0 y1 y2 y3 : Int32} (hq : hat as h q (ob 3 [.int x0, .int x1, .int x2, .int x3, .int x4])) : Det Γ l mX3_note rX3_note [.ref q, .int y0, .int y1, .int y2, .int y3] as h none (hset h q (ob 3 [.int y0, .int y1, .int y2, .int y3, .int (x4 + 1)])) := by
  refine Con.of (by decide +kernel) rfl rfl (Nat.le_of_ble_eq_true rfl) ?_
  refine q_aload_n dX3_note_0 rfl rfl ?_
  refine q_iload_n dX3_note_1 rfl rfl ?_
  refine q_put dX3_note_2 pX3_note_9 (hq) rfl rfl (Nat.le_of_ble_eq_true rfl) ?_
  refine q_aload_n dX3_note_5 rfl rfl ?_
  refine q_iload_n dX3_note_6 rfl rfl ?_
  refine q_put dX3_note_7 pX3_note_15 (hat_set hq) rfl rfl (Nat.le_of_ble_eq_true rfl) ?_
  refine q_aload_n dX3_note_10 rfl rfl ?_
  refine q_iload_n dX3_note_11 rfl rfl ?_
  refine q_put dX3_note_12 pX3_note_18 (hat_set (hat_set hq)) rfl rfl (Nat.le_of_ble_eq_true rfl) ?_
  refine q_aload_n dX3_note_15 rfl rfl ?_
  refine q_iload dX3_note_16 rfl ?_
  refine q_put dX3_note_18 pX3_note_21 (hat_set (hat_set (hat_set hq))) rfl rfl (Nat.le_of_ble_eq_true rfl) ?_
  refine q_aload_n dX3_note_21 rfl rfl ?_
  refine q_dup dX3_note_22 rfl ?_
  refine q_get dX3_note_23 fX3_note_24 (hat_set (hat_set (hat_set (hat_set hq)))) rfl ?_
  refine q_iconst (v := 1) dX3_note_26 rfl ?_
  refine q_iadd dX3_note_27 ?_
  refine q_put dX3_note_28 pX3_note_24 (hat_set (hat_set (hat_set (hat_set hq)))) rfl rfl (Nat.le_of_ble_eq_true rfl) ?_
  exact q_vret dX3_note_31 rfl (Nat.zero_le _) (Nat.zero_le _) (⟨rfl, rfl, by rw [hset_hset, hset_hset, hset_hset, hset_hset]; rfl⟩)
theorem ix3 (k w : Nat) : nI k * 3 + nI w = nI (k * 3 + w) := by rw [show (3 : Int32) = nI 3 from rfl, pk_mul, nI_add]
theorem in3 {k w : Nat} (hk : k < 9) (hw : w < 3) : vp_in (nI k * 3 + nI w) 27 := by rw [ix3]; exact vp_in_nI (by omega) (by omega)
theorem cl3 {k w : Nat} (hk : k < 9) (hw : w < 3) : (nI k * 3 + nI w).toNatClampNeg = k * 3 + w := by rw [ix3]; exact nI_clamp (by omega)
theorem c_lset_bad (hq : hat as h q (ob 2 [.ref r])) {k w v : Int32} (hb : k < 0 ∨ 9 ≤ k ∨ w < 0 ∨ 3 ≤ w ∨ v < 0 ∨ 99 < v) : Det Γ l mX2_set rX2_set [.ref q, .int k, .int w, .int v] as h (some (.int (-1))) h := by
  refine Con.of (by decide +kernel) rfl rfl (Nat.le_of_ble_eq_true rfl) ?_
  refine q_iload_n dX2_set_0 rfl rfl ?_
  refine q_if_lt 29 dX2_set_1 (by decide) (fun c1 => ?_) (fun c1 => ?_)
  · refine q_iconst (v := (-1)) dX2_set_29 rfl ?_
    exact q_iret dX2_set_30 rfl (Nat.zero_le _) (Nat.zero_le _) (⟨rfl, rfl, rfl⟩)
  · refine q_iload_n dX2_set_4 rfl rfl ?_
    refine q_bipush (v := 9) dX2_set_5 rfl ?_
    refine q_icmp_ge 29 dX2_set_7 (by decide) (fun c7 => ?_) (fun c7 => ?_)
    · refine q_iconst (v := (-1)) dX2_set_29 rfl ?_
      exact q_iret dX2_set_30 rfl (Nat.zero_le _) (Nat.zero_le _) (⟨rfl, rfl, rfl⟩)
    · refine q_iload_n dX2_set_10 rfl rfl ?_
      refine q_if_lt 29 dX2_set_11 (by decide) (fun c11 => ?_) (fun c11 => ?_)
      · refine q_iconst (v := (-1)) dX2_set_29 rfl ?_
        exact q_iret dX2_set_30 rfl (Nat.zero_le _) (Nat.zero_le _) (⟨rfl, rfl, rfl⟩)
      · refine q_iload_n dX2_set_14 rfl rfl ?_
        refine q_iconst (v := 3) dX2_set_15 rfl ?_
        refine q_icmp_ge 29 dX2_set_16 (by decide) (fun c16 => ?_) (fun c16 => ?_)
        · refine q_iconst (v := (-1)) dX2_set_29 rfl ?_
          exact q_iret dX2_set_30 rfl (Nat.zero_le _) (Nat.zero_le _) (⟨rfl, rfl, rfl⟩)
        · refine q_iload_n dX2_set_19 rfl rfl ?_
          refine q_if_lt 29 dX2_set_20 (by decide) (fun c20 => ?_) (fun c20 => ?_)
          · refine q_iconst (v := (-1)) dX2_set_29 rfl ?_
            exact q_iret dX2_set_30 rfl (Nat.zero_le _) (Nat.zero_le _) (⟨rfl, rfl, rfl⟩)
          · refine q_iload_n dX2_set_23 rfl rfl ?_
            refine q_bipush (v := 99) dX2_set_24 rfl ?_
            refine q_icmp_le 31 dX2_set_26 (by decide) (fun c26 => ?_) (fun c26 => ?_)
            · exact absurd hb (by rintro (z | z | z | z | z | z) <;> first | exact c1 z | exact c7 z | exact c11 z | exact c16 z | exact c20 z | exact absurd c26 (Int32.not_le.mpr z))
            · refine q_iconst (v := (-1)) dX2_set_29 rfl ?_
              exact q_iret dX2_set_30 rfl (Nat.zero_le _) (Nat.zero_le _) (⟨rfl, rfl, rfl⟩)
theorem c_lset (hq : hat as h q (ob 2 [.ref r])) (hr : hat as h r (aI Γ 27 f)) {k w : Nat} {v : Int32} (hk : k < 9) (hw : w < 3) (hv0 : ¬ v < 0) (hv1 : v ≤ 99) : Det Γ l mX2_set rX2_set [.ref q, .int (nI k), .int (nI w), .int v] as h (some (.int (f (k * 3 + w)))) (hset h r (aI Γ 27 (upd f (k * 3 + w) v))) := by
  refine Con.of (by decide +kernel) rfl rfl (Nat.le_of_ble_eq_true rfl) ?_
  refine q_iload_n dX2_set_0 rfl rfl ?_
  refine q_if_lt 29 dX2_set_1 (by decide) (fun z => absurd z (nI_pos (by omega))) (fun _ => ?_)
  refine q_iload_n dX2_set_4 rfl rfl ?_
  refine q_bipush (v := 9) dX2_set_5 rfl ?_
  refine q_icmp_ge 29 dX2_set_7 (by decide) (fun z => absurd z (lt_c 9 rfl hk (by omega))) (fun _ => ?_)
  refine q_iload_n dX2_set_10 rfl rfl ?_
  refine q_if_lt 29 dX2_set_11 (by decide) (fun z => absurd z (nI_pos (by omega))) (fun _ => ?_)
  refine q_iload_n dX2_set_14 rfl rfl ?_
  refine q_iconst (v := 3) dX2_set_15 rfl ?_
  refine q_icmp_ge 29 dX2_set_16 (by decide) (fun z => absurd z (lt_c 3 rfl hw (by omega))) (fun _ => ?_)
  refine q_iload_n dX2_set_19 rfl rfl ?_
  refine q_if_lt 29 dX2_set_20 (by decide) (fun z => absurd z (hv0)) (fun _ => ?_)
  refine q_iload_n dX2_set_23 rfl rfl ?_
  refine q_bipush (v := 99) dX2_set_24 rfl ?_
  refine q_icmp_le 31 dX2_set_26 (by decide) (fun _ => ?_) (fun z => absurd (hv1) z)
  refine q_aload_n dX2_set_31 rfl rfl ?_
  refine q_get dX2_set_32 fX2_set_11 (hq) rfl ?_
  refine q_iload_n dX2_set_35 rfl rfl ?_
  refine q_iconst (v := 3) dX2_set_36 rfl ?_
  refine q_imul dX2_set_37 ?_
  refine q_iload_n dX2_set_38 rfl rfl ?_
  refine q_iadd dX2_set_39 ?_
  refine q_iald dX2_set_40 (hr) (in3 hk hw) ?_
  refine q_istore dX2_set_41 (by decide) ?_
  refine q_aload_n dX2_set_43 rfl rfl ?_
  refine q_get dX2_set_44 fX2_set_11 (hq) rfl ?_
  refine q_iload_n dX2_set_47 rfl rfl ?_
  refine q_iconst (v := 3) dX2_set_48 rfl ?_
  refine q_imul dX2_set_49 ?_
  refine q_iload_n dX2_set_50 rfl rfl ?_
  refine q_iadd dX2_set_51 ?_
  refine q_iload_n dX2_set_52 rfl rfl ?_
  refine q_iast dX2_set_53 (hr) (in3 hk hw) ?_
  refine q_iload dX2_set_54 rfl ?_
  exact q_iret dX2_set_56 rfl (Nat.zero_le _) (Nat.zero_le _) (⟨by rw [cl3 hk hw], rfl, by rw [cl3 hk hw]⟩)
theorem sumOf_loop (hq : hat as h q (ob 2 [.ref r])) (hr : hat as h r (aI Γ 27 f)) {set : Int32} {w : Nat} (hw : w < 3) : ∀ (d k : Nat) (x y : Int32), k + d = 9 → x = lawS f set w k → y = nI k → V Γ l mX2_sumOf rX2_sumOf (Zm Γ rX2_sumOf (qD (some (.int (lawS f set w 9))) as h)) 0 0 5 [(0, .ref q), (1, .int set), (2, .int (nI w)), (3, .int x), (4, .int y)] [] as h := by
  intro d
  induction d with
  | zero =>
    intro k x y hk hx hy
    subst hx hy
    refine q_iload dX2_sumOf_5 rfl ?_
    refine q_bipush (v := 9) dX2_sumOf_7 rfl ?_
    refine q_icmp_ge 42 dX2_sumOf_9 (by decide) (fun _ => ?_) (fun z => absurd (ge_c 9 rfl (by omega) (by omega)) z)
    refine q_iload_n dX2_sumOf_42 rfl rfl ?_
    exact q_iret dX2_sumOf_43 rfl (Nat.zero_le _) (Nat.zero_le _) (⟨by rw [show k = 9 by omega], rfl, rfl⟩)
  | succ d ih =>
    intro k x y hk hx hy
    subst hx hy
    refine q_iload dX2_sumOf_5 rfl ?_
    refine q_bipush (v := 9) dX2_sumOf_7 rfl ?_
    refine q_icmp_ge 42 dX2_sumOf_9 (by decide) (fun z => absurd z (lt_c 9 rfl (by omega) (by omega))) (fun _ => ?_)
    refine q_iload_n dX2_sumOf_12 rfl rfl ?_
    refine q_iload dX2_sumOf_13 rfl ?_
    refine q_ishr dX2_sumOf_15 ?_
    refine q_iconst (v := 1) dX2_sumOf_16 rfl ?_
    refine q_iand dX2_sumOf_17 ?_
    refine q_iconst (v := 1) dX2_sumOf_18 rfl ?_
    refine q_icmp_ne 36 dX2_sumOf_19 (by decide) (fun c19 => ?_) (fun c19 => ?_)
    · refine q_iinc1 dX2_sumOf_36 rfl (by decide) ?_
      refine q_goto 5 dX2_sumOf_39 (by decide) ?_
      exact V.at (ih (k + 1) _ _ (by omega) (by simp only [lawS]; first | rw [if_neg c19] | rw [if_pos c19, cl3 (by omega) hw]) (nI_s k)) ⟨rfl, rfl, rfl, rfl, rfl, trivial⟩
    · refine q_iload_n dX2_sumOf_22 rfl rfl ?_
      refine q_aload_n dX2_sumOf_23 rfl rfl ?_
      refine q_get dX2_sumOf_24 fX2_sumOf_11 (hq) rfl ?_
      refine q_iload dX2_sumOf_27 rfl ?_
      refine q_iconst (v := 3) dX2_sumOf_29 rfl ?_
      refine q_imul dX2_sumOf_30 ?_
      refine q_iload_n dX2_sumOf_31 rfl rfl ?_
      refine q_iadd dX2_sumOf_32 ?_
      refine q_iald dX2_sumOf_33 (hr) (in3 (show k < 9 by omega) hw) ?_
      refine q_iadd dX2_sumOf_34 ?_
      refine q_istore_n dX2_sumOf_35 rfl (by decide) ?_
      refine q_iinc1 dX2_sumOf_36 rfl (by decide) ?_
      refine q_goto 5 dX2_sumOf_39 (by decide) ?_
      exact V.at (ih (k + 1) _ _ (by omega) (by simp only [lawS]; first | rw [if_neg c19] | rw [if_pos c19, cl3 (by omega) hw]) (nI_s k)) ⟨rfl, rfl, rfl, rfl, rfl, trivial⟩
theorem c_sumOf (hq : hat as h q (ob 2 [.ref r])) (hr : hat as h r (aI Γ 27 f)) {set : Int32} {w : Nat} (hw : w < 3) : Det Γ l mX2_sumOf rX2_sumOf [.ref q, .int set, .int (nI w)] as h (some (.int (lawS f set w 9))) h := by
  refine Con.of (by decide +kernel) rfl rfl (Nat.le_of_ble_eq_true rfl) ?_
  refine q_iconst (v := 0) dX2_sumOf_0 rfl ?_
  refine q_istore_n dX2_sumOf_1 rfl (by decide) ?_
  refine q_iconst (v := 0) dX2_sumOf_2 rfl ?_
  refine q_istore dX2_sumOf_3 (by decide) ?_
  exact V.at (sumOf_loop hq hr hw 9 0 _ _ (by omega) rfl rfl) ⟨rfl, rfl, rfl, rfl, rfl, trivial⟩
theorem chSet_loop (hq : hat as h q (ob 2 [.ref r])) (hr : hat as h r (aI Γ 27 f)) {less more : Int32} : ∀ (d k : Nat) (x y z : Int32) (ls : List (Nat × Value)), k + d = 512 → x = (xCh f less more k).1 → z = (xCh f less more k).2 → y = nI k → lin ls [(0, .ref q), (1, .int less), (2, .int more), (3, .int x), (4, .int z), (5, .int y)] → V Γ l mX2_cheapestSet rX2_cheapestSet (Zm Γ rX2_cheapestSet (qD (some (.int (xCh f less more 512).1)) as h)) 0 0 10 ls [] as h := by
  intro d
  induction d with
  | zero =>
    intro k x y z ls hk hx hz hy hl
    subst hx hy hz
    refine V.at ?_ hl
    refine q_iload dX2_cheapestSet_10 rfl ?_
    refine q_sipush (v := 512) dX2_cheapestSet_12 rfl ?_
    refine q_icmp_ge 69 dX2_cheapestSet_15 (by decide) (fun _ => ?_) (fun z => absurd (ge_c 512 rfl (by omega) (by omega)) z)
    refine q_iload_n dX2_cheapestSet_69 rfl rfl ?_
    exact q_iret dX2_cheapestSet_70 rfl (Nat.zero_le _) (Nat.zero_le _) (⟨by rw [show k = 512 by omega], rfl, rfl⟩)
  | succ d ih =>
    intro k x y z ls hk hx hz hy hl
    subst hx hy hz
    refine V.at ?_ hl
    refine q_iload dX2_cheapestSet_10 rfl ?_
    refine q_sipush (v := 512) dX2_cheapestSet_12 rfl ?_
    refine q_icmp_ge 69 dX2_cheapestSet_15 (by decide) (fun z => absurd z (lt_c 512 rfl (by omega) (by omega))) (fun _ => ?_)
    refine q_aload_n dX2_cheapestSet_18 rfl rfl ?_
    refine q_iload dX2_cheapestSet_19 rfl ?_
    refine q_iconst (v := 0) dX2_cheapestSet_21 rfl ?_
    refine q_callVd dX2_cheapestSet_22 wX2_cheapestSet_18 (c_sumOf (w := 0) hq hr (by omega)) (hq) ⟨_, _, rfl⟩ rfl rfl (Nat.le_of_ble_eq_true rfl) ⟨⟨Nat.le_of_ble_eq_true rfl, Nat.le_of_ble_eq_true rfl⟩, Nat.le_of_ble_eq_true rfl, Nat.le_of_ble_eq_true rfl⟩ ?_
    refine q_istore dX2_cheapestSet_25 (by decide) ?_
    refine q_iload dX2_cheapestSet_27 rfl ?_
    refine q_iload dX2_cheapestSet_29 rfl ?_
    refine q_icmp_ge 63 dX2_cheapestSet_31 (by decide) (fun cA => ?_) (fun cA => ?_)
    · have e : xCh f less more (k + 1) = xCh f less more k := by
        simp only [xCh]
        refine if_neg (fun z => ?_)
        first | exact absurd z.1 (Int32.not_lt.mpr cA) | exact absurd z.2.1 (Int32.not_le.mpr cB) | exact absurd z.2.2 (Int32.not_le.mpr cC)
      refine q_iinc1 dX2_cheapestSet_63 rfl (by decide) ?_
      refine q_goto 10 dX2_cheapestSet_66 (by decide) ?_
      exact ih (k + 1) _ _ _ _ (by omega) (by rw [e]) (by rw [e]) (nI_s k) ⟨rfl, rfl, rfl, rfl, rfl, rfl, trivial⟩
    · refine q_aload_n dX2_cheapestSet_34 rfl rfl ?_
      refine q_iload dX2_cheapestSet_35 rfl ?_
      refine q_iconst (v := 1) dX2_cheapestSet_37 rfl ?_
      refine q_callVd dX2_cheapestSet_38 wX2_cheapestSet_18 (c_sumOf (w := 1) hq hr (by omega)) (hq) ⟨_, _, rfl⟩ rfl rfl (Nat.le_of_ble_eq_true rfl) ⟨⟨Nat.le_of_ble_eq_true rfl, Nat.le_of_ble_eq_true rfl⟩, Nat.le_of_ble_eq_true rfl, Nat.le_of_ble_eq_true rfl⟩ ?_
      refine q_iload_n dX2_cheapestSet_41 rfl rfl ?_
      refine q_icmp_lt 63 dX2_cheapestSet_42 (by decide) (fun cB => ?_) (fun cB => ?_)
      · have e : xCh f less more (k + 1) = xCh f less more k := by
          simp only [xCh]
          refine if_neg (fun z => ?_)
          first | exact absurd z.1 (Int32.not_lt.mpr cA) | exact absurd z.2.1 (Int32.not_le.mpr cB) | exact absurd z.2.2 (Int32.not_le.mpr cC)
        refine q_iinc1 dX2_cheapestSet_63 rfl (by decide) ?_
        refine q_goto 10 dX2_cheapestSet_66 (by decide) ?_
        exact ih (k + 1) _ _ _ _ (by omega) (by rw [e]) (by rw [e]) (nI_s k) ⟨rfl, rfl, rfl, rfl, rfl, rfl, trivial⟩
      · refine q_aload_n dX2_cheapestSet_45 rfl rfl ?_
        refine q_iload dX2_cheapestSet_46 rfl ?_
        refine q_iconst (v := 2) dX2_cheapestSet_48 rfl ?_
        refine q_callVd dX2_cheapestSet_49 wX2_cheapestSet_18 (c_sumOf (w := 2) hq hr (by omega)) (hq) ⟨_, _, rfl⟩ rfl rfl (Nat.le_of_ble_eq_true rfl) ⟨⟨Nat.le_of_ble_eq_true rfl, Nat.le_of_ble_eq_true rfl⟩, Nat.le_of_ble_eq_true rfl, Nat.le_of_ble_eq_true rfl⟩ ?_
        refine q_iload_n dX2_cheapestSet_52 rfl rfl ?_
        refine q_icmp_lt 63 dX2_cheapestSet_53 (by decide) (fun cC => ?_) (fun cC => ?_)
        · have e : xCh f less more (k + 1) = xCh f less more k := by
            simp only [xCh]
            refine if_neg (fun z => ?_)
            first | exact absurd z.1 (Int32.not_lt.mpr cA) | exact absurd z.2.1 (Int32.not_le.mpr cB) | exact absurd z.2.2 (Int32.not_le.mpr cC)
          refine q_iinc1 dX2_cheapestSet_63 rfl (by decide) ?_
          refine q_goto 10 dX2_cheapestSet_66 (by decide) ?_
          exact ih (k + 1) _ _ _ _ (by omega) (by rw [e]) (by rw [e]) (nI_s k) ⟨rfl, rfl, rfl, rfl, rfl, rfl, trivial⟩
        · have e : xCh f less more (k + 1) = (nI k, lawS f (nI k) 0 9) := by
            simp only [xCh]
            exact if_pos ⟨Int32.not_le.mp cA, Int32.not_lt.mp cB, Int32.not_lt.mp cC⟩
          refine q_iload dX2_cheapestSet_56 rfl ?_
          refine q_istore_n dX2_cheapestSet_58 rfl (by decide) ?_
          refine q_iload dX2_cheapestSet_59 rfl ?_
          refine q_istore dX2_cheapestSet_61 (by decide) ?_
          refine q_iinc1 dX2_cheapestSet_63 rfl (by decide) ?_
          refine q_goto 10 dX2_cheapestSet_66 (by decide) ?_
          exact ih (k + 1) _ _ _ _ (by omega) (by rw [e]) (by rw [e]) (nI_s k) ⟨rfl, rfl, rfl, rfl, rfl, rfl, trivial⟩
theorem c_cheapestSet (hq : hat as h q (ob 2 [.ref r])) (hr : hat as h r (aI Γ 27 f)) {less more : Int32} : Det Γ l mX2_cheapestSet rX2_cheapestSet [.ref q, .int less, .int more] as h (some (.int (xCh f less more 512).1)) h := by
  refine Con.of (by decide +kernel) rfl rfl (Nat.le_of_ble_eq_true rfl) ?_
  refine q_bipush (v := (-9)) dX2_cheapestSet_0 rfl ?_
  refine q_istore_n dX2_cheapestSet_2 rfl (by decide) ?_
  refine q_ldc (v := 2147483647) dX2_cheapestSet_3 (by decide +kernel) ?_
  refine q_istore dX2_cheapestSet_5 (by decide) ?_
  refine q_iconst (v := 0) dX2_cheapestSet_7 rfl ?_
  refine q_istore dX2_cheapestSet_8 (by decide) ?_
  exact chSet_loop hq hr 512 0 _ _ _ _ (by omega) rfl rfl rfl ⟨rfl, rfl, rfl, rfl, rfl, rfl, trivial⟩
theorem c_bitCount {x : Int32} : Det Γ l mJ6_bitCount_0f7a4 rJ6_bitCount_0f7a4 [.int x] as h (some (.int (bcI x))) h := by
  refine Con.of (by decide +kernel) rfl rfl (Nat.le_of_ble_eq_true rfl) ?_
  refine q_iload_n dJ6_bitCount_0f7a4_0 rfl rfl ?_
  refine q_iload_n dJ6_bitCount_0f7a4_1 rfl rfl ?_
  refine q_iconst (v := 1) dJ6_bitCount_0f7a4_2 rfl ?_
  refine q_iushr dJ6_bitCount_0f7a4_3 ?_
  refine q_ldcw (v := 1431655765) dJ6_bitCount_0f7a4_4 (by decide +kernel) ?_
  refine q_iand dJ6_bitCount_0f7a4_7 ?_
  refine q_isub dJ6_bitCount_0f7a4_8 ?_
  refine q_istore_n dJ6_bitCount_0f7a4_9 rfl (by decide) ?_
  refine q_iload_n dJ6_bitCount_0f7a4_10 rfl rfl ?_
  refine q_ldcw (v := 858993459) dJ6_bitCount_0f7a4_11 (by decide +kernel) ?_
  refine q_iand dJ6_bitCount_0f7a4_14 ?_
  refine q_iload_n dJ6_bitCount_0f7a4_15 rfl rfl ?_
  refine q_iconst (v := 2) dJ6_bitCount_0f7a4_16 rfl ?_
  refine q_iushr dJ6_bitCount_0f7a4_17 ?_
  refine q_ldcw (v := 858993459) dJ6_bitCount_0f7a4_18 (by decide +kernel) ?_
  refine q_iand dJ6_bitCount_0f7a4_21 ?_
  refine q_iadd dJ6_bitCount_0f7a4_22 ?_
  refine q_istore_n dJ6_bitCount_0f7a4_23 rfl (by decide) ?_
  refine q_iload_n dJ6_bitCount_0f7a4_24 rfl rfl ?_
  refine q_iload_n dJ6_bitCount_0f7a4_25 rfl rfl ?_
  refine q_iconst (v := 4) dJ6_bitCount_0f7a4_26 rfl ?_
  refine q_iushr dJ6_bitCount_0f7a4_27 ?_
  refine q_iadd dJ6_bitCount_0f7a4_28 ?_
  refine q_ldcw (v := 252645135) dJ6_bitCount_0f7a4_29 (by decide +kernel) ?_
  refine q_iand dJ6_bitCount_0f7a4_32 ?_
  refine q_istore_n dJ6_bitCount_0f7a4_33 rfl (by decide) ?_
  refine q_iload_n dJ6_bitCount_0f7a4_34 rfl rfl ?_
  refine q_iload_n dJ6_bitCount_0f7a4_35 rfl rfl ?_
  refine q_bipush (v := 8) dJ6_bitCount_0f7a4_36 rfl ?_
  refine q_iushr dJ6_bitCount_0f7a4_38 ?_
  refine q_iadd dJ6_bitCount_0f7a4_39 ?_
  refine q_istore_n dJ6_bitCount_0f7a4_40 rfl (by decide) ?_
  refine q_iload_n dJ6_bitCount_0f7a4_41 rfl rfl ?_
  refine q_iload_n dJ6_bitCount_0f7a4_42 rfl rfl ?_
  refine q_bipush (v := 16) dJ6_bitCount_0f7a4_43 rfl ?_
  refine q_iushr dJ6_bitCount_0f7a4_45 ?_
  refine q_iadd dJ6_bitCount_0f7a4_46 ?_
  refine q_istore_n dJ6_bitCount_0f7a4_47 rfl (by decide) ?_
  refine q_iload_n dJ6_bitCount_0f7a4_48 rfl rfl ?_
  refine q_bipush (v := 63) dJ6_bitCount_0f7a4_49 rfl ?_
  refine q_iand dJ6_bitCount_0f7a4_51 ?_
  exact q_iret dJ6_bitCount_0f7a4_52 rfl (Nat.zero_le _) (Nat.zero_le _) (⟨rfl, rfl, rfl⟩)
variable {a0 a1 a2 a3 n : Nat} {o : Nat → Int32}
theorem c_everybody {t : Nat} (ht : hat as h t (ob 6 [.ref a0, .ref a1, .ref a2, .ref a3, .int (nI n)])) : Det Γ l mX6_everybody rX6_everybody [.ref t] as h (some (.int (evI n))) h := by
  refine Con.of (by decide +kernel) rfl rfl (Nat.le_of_ble_eq_true rfl) ?_
  refine q_iconst (v := 1) dX6_everybody_0 rfl ?_
  refine q_aload_n dX6_everybody_1 rfl rfl ?_
  refine q_get dX6_everybody_2 fX6_everybody_24 (ht) rfl ?_
  refine q_ishl dX6_everybody_5 ?_
  refine q_iconst (v := 1) dX6_everybody_6 rfl ?_
  refine q_isub dX6_everybody_7 ?_
  exact q_iret dX6_everybody_8 rfl (Nat.zero_le _) (Nat.zero_le _) (⟨rfl, rfl, rfl⟩)
theorem after_loop {t : Nat} (ht : hat as h t (ob 6 [.ref a0, .ref a1, .ref a2, .ref a3, .int (nI n)])) (ho : hat as h a3 (aI Γ 8 o)) (hn : n ≤ 8) {s num : Int32} : ∀ (d k : Nat) (x y : Int32), k + d = n → x = afS o num s k → y = nI k → V Γ l mX6_afterRound rX6_afterRound (Zm Γ rX6_afterRound (qD (some (.int (afS o num s n))) as h)) 0 0 10 [(0, .ref t), (1, .int s), (2, .int num), (3, .int x), (4, .int y)] [] as h := by
  intro d
  induction d with
  | zero =>
    intro k x y hk hx hy
    subst hx hy
    refine q_iload dX6_afterRound_10 rfl ?_
    refine q_aload_n dX6_afterRound_12 rfl rfl ?_
    refine q_get dX6_afterRound_13 fX6_afterRound_24 (ht) rfl ?_
    refine q_icmp_ge 43 dX6_afterRound_16 (by decide) (fun _ => ?_) (fun z => absurd (nI_le (by omega) (by omega)) z)
    refine q_iload_n dX6_afterRound_43 rfl rfl ?_
    exact q_iret dX6_afterRound_44 rfl (Nat.zero_le _) (Nat.zero_le _) (⟨by rw [show k = n by omega], rfl, rfl⟩)
  | succ d ih =>
    intro k x y hk hx hy
    subst hx hy
    refine q_iload dX6_afterRound_10 rfl ?_
    refine q_aload_n dX6_afterRound_12 rfl rfl ?_
    refine q_get dX6_afterRound_13 fX6_afterRound_24 (ht) rfl ?_
    refine q_icmp_ge 43 dX6_afterRound_16 (by decide) (fun z => absurd z (nI_ge (by omega) (by omega))) (fun _ => ?_)
    refine q_iload_n dX6_afterRound_19 rfl rfl ?_
    refine q_aload_n dX6_afterRound_20 rfl rfl ?_
    refine q_get dX6_afterRound_21 fX6_afterRound_21 (ht) rfl ?_
    refine q_iload dX6_afterRound_24 rfl ?_
    refine q_iald dX6_afterRound_26 (ho) (in_nI (show k < 8 by omega) (by omega)) ?_
    rw [nI_clamp (by omega)]
    refine q_icmp_lt 37 dX6_afterRound_27 (by decide) (fun cN => ?_) (fun cN => ?_)
    · refine q_iinc1 dX6_afterRound_37 rfl (by decide) ?_
      refine q_goto 10 dX6_afterRound_40 (by decide) ?_
      exact V.at (ih (k + 1) _ _ (by omega) (by simp only [afS]; first | rw [if_neg cN] | rw [if_pos cN]) (nI_s k)) ⟨rfl, rfl, rfl, rfl, rfl, trivial⟩
    · refine q_iload_n dX6_afterRound_30 rfl rfl ?_
      refine q_iconst (v := 1) dX6_afterRound_31 rfl ?_
      refine q_iload dX6_afterRound_32 rfl ?_
      refine q_ishl dX6_afterRound_34 ?_
      refine q_ior dX6_afterRound_35 ?_
      refine q_istore_n dX6_afterRound_36 rfl (by decide) ?_
      refine q_iinc1 dX6_afterRound_37 rfl (by decide) ?_
      refine q_goto 10 dX6_afterRound_40 (by decide) ?_
      exact V.at (ih (k + 1) _ _ (by omega) (by simp only [afS]; first | rw [if_neg cN] | rw [if_pos cN]) (nI_s k)) ⟨rfl, rfl, rfl, rfl, rfl, trivial⟩
theorem c_afterRound {t : Nat} (ht : hat as h t (ob 6 [.ref a0, .ref a1, .ref a2, .ref a3, .int (nI n)])) (ho : hat as h a3 (aI Γ 8 o)) (hn : n ≤ 8) {s : Int32} : Det Γ l mX6_afterRound rX6_afterRound [.ref t, .int s] as h (some (.int (afR o n s))) h := by
  refine Con.of (by decide +kernel) rfl rfl (Nat.le_of_ble_eq_true rfl) ?_
  refine q_iload_n dX6_afterRound_0 rfl rfl ?_
  refine q_callSd dX6_afterRound_1 wX6_afterRound_28 (c_bitCount) rfl rfl (Nat.le_of_ble_eq_true rfl) ⟨⟨Nat.le_of_ble_eq_true rfl, Nat.le_of_ble_eq_true rfl⟩, Nat.le_of_ble_eq_true rfl, Nat.le_of_ble_eq_true rfl⟩ ?_
  refine q_istore_n dX6_afterRound_4 rfl (by decide) ?_
  refine q_iload_n dX6_afterRound_5 rfl rfl ?_
  refine q_istore_n dX6_afterRound_6 rfl (by decide) ?_
  refine q_iconst (v := 0) dX6_afterRound_7 rfl ?_
  refine q_istore dX6_afterRound_8 (by decide) ?_
  exact V.at (after_loop ht ho hn n 0 _ _ (by omega) rfl rfl) ⟨rfl, rfl, rfl, rfl, rfl, trivial⟩
theorem takers_loop {t : Nat} (ht : hat as h t (ob 6 [.ref a0, .ref a1, .ref a2, .ref a3, .int (nI n)])) (ho : hat as h a3 (aI Γ 8 o)) (hn : n ≤ 8) {s0 s : Int32} : ∀ (d k : Nat) (x y : Int32), k + d = 8 → x = takS o n s k → y = nI k → V Γ l mX6_takersFrom rX6_takersFrom (Zm Γ rX6_takersFrom (qD (some (.int (takS o n s 8))) as h)) 0 0 9 [(0, .ref t), (1, .int s0), (2, .int x), (3, .int y)] [] as h := by
  intro d
  induction d with
  | zero =>
    intro k x y hk hx hy
    subst hx hy
    refine q_iload_n dX6_takersFrom_9 rfl rfl ?_
    refine q_bipush (v := 8) dX6_takersFrom_10 rfl ?_
    refine q_icmp_ge 27 dX6_takersFrom_12 (by decide) (fun _ => ?_) (fun z => absurd (ge_c 8 rfl (by omega) (by omega)) z)
    refine q_iload_n dX6_takersFrom_27 rfl rfl ?_
    exact q_iret dX6_takersFrom_28 rfl (Nat.zero_le _) (Nat.zero_le _) (⟨by rw [show k = 8 by omega], rfl, rfl⟩)
  | succ d ih =>
    intro k x y hk hx hy
    subst hx hy
    refine q_iload_n dX6_takersFrom_9 rfl rfl ?_
    refine q_bipush (v := 8) dX6_takersFrom_10 rfl ?_
    refine q_icmp_ge 27 dX6_takersFrom_12 (by decide) (fun z => absurd z (lt_c 8 rfl (by omega) (by omega))) (fun _ => ?_)
    refine q_aload_n dX6_takersFrom_15 rfl rfl ?_
    refine q_iload_n dX6_takersFrom_16 rfl rfl ?_
    refine q_callVd dX6_takersFrom_17 wX6_takersFrom_38 (c_afterRound ht ho hn) (ht) ⟨_, _, rfl⟩ rfl rfl (Nat.le_of_ble_eq_true rfl) ⟨⟨Nat.le_of_ble_eq_true rfl, Nat.le_of_ble_eq_true rfl⟩, Nat.le_of_ble_eq_true rfl, Nat.le_of_ble_eq_true rfl⟩ ?_
    refine q_istore_n dX6_takersFrom_20 rfl (by decide) ?_
    refine q_iinc1 dX6_takersFrom_21 rfl (by decide) ?_
    refine q_goto 9 dX6_takersFrom_24 (by decide) ?_
    exact V.at (ih (k + 1) _ _ (by omega) rfl (nI_s k)) ⟨rfl, rfl, rfl, rfl, trivial⟩
theorem c_takersFrom {t : Nat} (ht : hat as h t (ob 6 [.ref a0, .ref a1, .ref a2, .ref a3, .int (nI n)])) (ho : hat as h a3 (aI Γ 8 o)) (hn : n ≤ 8) {s : Int32} : Det Γ l mX6_takersFrom rX6_takersFrom [.ref t, .int s] as h (some (.int (takF o n s))) h := by
  refine Con.of (by decide +kernel) rfl rfl (Nat.le_of_ble_eq_true rfl) ?_
  refine q_iload_n dX6_takersFrom_0 rfl rfl ?_
  refine q_aload_n dX6_takersFrom_1 rfl rfl ?_
  refine q_callVd dX6_takersFrom_2 wX6_takersFrom_34 (c_everybody ht) (ht) ⟨_, _, rfl⟩ rfl rfl (Nat.le_of_ble_eq_true rfl) ⟨⟨Nat.le_of_ble_eq_true rfl, Nat.le_of_ble_eq_true rfl⟩, Nat.le_of_ble_eq_true rfl, Nat.le_of_ble_eq_true rfl⟩ ?_
  refine q_iand dX6_takersFrom_5 ?_
  refine q_istore_n dX6_takersFrom_6 rfl (by decide) ?_
  refine q_iconst (v := 0) dX6_takersFrom_7 rfl ?_
  refine q_istore_n dX6_takersFrom_8 rfl (by decide) ?_
  exact V.at (takers_loop ht ho hn 8 0 _ _ (by omega) rfl rfl) ⟨rfl, rfl, rfl, rfl, trivial⟩
theorem rounds_loop {t : Nat} (ht : hat as h t (ob 6 [.ref a0, .ref a1, .ref a2, .ref a3, .int (nI n)])) (ho : hat as h a3 (aI Γ 8 o)) (hn : n ≤ 8) {s0 r0 : Int32} : ∀ (d k : Nat) (x y : Int32) (ls : List (Nat × Value)), k + d = 8 → y = nI k → r0 = rndS o n d k x → lin ls [(0, .ref t), (1, .int s0), (2, .int x), (3, .int y)] → V Γ l mX6_roundsFrom rX6_roundsFrom (Zm Γ rX6_roundsFrom (qD (some (.int r0)) as h)) 0 0 9 ls [] as h := by
  intro d
  induction d with
  | zero =>
    intro k x y ls hk hy hr hl
    subst hy hr
    refine V.at ?_ hl
    refine q_iload_n dX6_roundsFrom_9 rfl rfl ?_
    refine q_bipush (v := 8) dX6_roundsFrom_10 rfl ?_
    refine q_icmp_ge 39 dX6_roundsFrom_12 (by decide) (fun _ => ?_) (fun z => absurd (ge_c 8 rfl (by omega) (by omega)) z)
    refine q_bipush (v := 8) dX6_roundsFrom_39 rfl ?_
    exact q_iret dX6_roundsFrom_41 rfl (Nat.zero_le _) (Nat.zero_le _) (⟨rfl, rfl, rfl⟩)
  | succ d ih =>
    intro k x y ls hk hy hr hl
    subst hy
    refine V.at ?_ hl
    refine q_iload_n dX6_roundsFrom_9 rfl rfl ?_
    refine q_bipush (v := 8) dX6_roundsFrom_10 rfl ?_
    refine q_icmp_ge 39 dX6_roundsFrom_12 (by decide) (fun z => absurd z (lt_c 8 rfl (by omega) (by omega))) (fun _ => ?_)
    refine q_aload_n dX6_roundsFrom_15 rfl rfl ?_
    refine q_iload_n dX6_roundsFrom_16 rfl rfl ?_
    refine q_callVd dX6_roundsFrom_17 wX6_roundsFrom_38 (c_afterRound ht ho hn) (ht) ⟨_, _, rfl⟩ rfl rfl (Nat.le_of_ble_eq_true rfl) ⟨⟨Nat.le_of_ble_eq_true rfl, Nat.le_of_ble_eq_true rfl⟩, Nat.le_of_ble_eq_true rfl, Nat.le_of_ble_eq_true rfl⟩ ?_
    refine q_istore dX6_roundsFrom_20 (by decide) ?_
    refine q_iload dX6_roundsFrom_22 rfl ?_
    refine q_iload_n dX6_roundsFrom_24 rfl rfl ?_
    refine q_icmp_ne 30 dX6_roundsFrom_25 (by decide) (fun cE => ?_) (fun cE => ?_)
    · refine q_iload dX6_roundsFrom_30 rfl ?_
      refine q_istore_n dX6_roundsFrom_32 rfl (by decide) ?_
      refine q_iinc1 dX6_roundsFrom_33 rfl (by decide) ?_
      refine q_goto 9 dX6_roundsFrom_36 (by decide) ?_
      exact ih (k + 1) _ _ _ (by omega) (nI_s k) (by rw [hr]; simp only [rndS]; rw [if_neg cE]) ⟨rfl, rfl, rfl, rfl, trivial⟩
    · refine q_iload_n dX6_roundsFrom_28 rfl rfl ?_
      exact q_iret dX6_roundsFrom_29 rfl (Nat.zero_le _) (Nat.zero_le _) (⟨by rw [hr]; simp only [rndS]; rw [if_pos cE], rfl, rfl⟩)
theorem c_roundsFrom {t : Nat} (ht : hat as h t (ob 6 [.ref a0, .ref a1, .ref a2, .ref a3, .int (nI n)])) (ho : hat as h a3 (aI Γ 8 o)) (hn : n ≤ 8) {s : Int32} : Det Γ l mX6_roundsFrom rX6_roundsFrom [.ref t, .int s] as h (some (.int (rndF o n s))) h := by
  refine Con.of (by decide +kernel) rfl rfl (Nat.le_of_ble_eq_true rfl) ?_
  refine q_iload_n dX6_roundsFrom_0 rfl rfl ?_
  refine q_aload_n dX6_roundsFrom_1 rfl rfl ?_
  refine q_callVd dX6_roundsFrom_2 wX6_roundsFrom_34 (c_everybody ht) (ht) ⟨_, _, rfl⟩ rfl rfl (Nat.le_of_ble_eq_true rfl) ⟨⟨Nat.le_of_ble_eq_true rfl, Nat.le_of_ble_eq_true rfl⟩, Nat.le_of_ble_eq_true rfl, Nat.le_of_ble_eq_true rfl⟩ ?_
  refine q_iand dX6_roundsFrom_5 ?_
  refine q_istore_n dX6_roundsFrom_6 rfl (by decide) ?_
  refine q_iconst (v := 0) dX6_roundsFrom_7 rfl ?_
  refine q_istore_n dX6_roundsFrom_8 rfl (by decide) ?_
  exact rounds_loop ht ho hn 8 0 _ _ _ (by omega) rfl rfl ⟨rfl, rfl, rfl, rfl, trivial⟩
theorem seeds_loop {t E : Nat} (ht : hat as h t (ob 6 [.ref a0, .ref a1, .ref a2, .ref a3, .int (nI n)])) (ho : hat as h a3 (aI Γ 8 o)) (hn : n ≤ 8) (hE : evI n = nI E) (hE2 : E < 256) : ∀ (d k : Nat) (x y : Int32) (ls : List (Nat × Value)), k + d = E → x = lsS o n k → y = nI k → lin ls [(0, .ref t), (1, .int x), (2, .int y)] → V Γ l mX6_leastSeeds rX6_leastSeeds (Zm Γ rX6_leastSeeds (qD (some (.int (lsS o n E))) as h)) 0 0 7 ls [] as h := by
  intro d
  induction d with
  | zero =>
    intro k x y ls hk hx hy hl
    subst hx hy
    refine V.at ?_ hl
    refine q_iload_n dX6_leastSeeds_7 rfl rfl ?_
    refine q_aload_n dX6_leastSeeds_8 rfl rfl ?_
    refine q_callVd dX6_leastSeeds_9 wX6_leastSeeds_34 (c_everybody ht) (ht) ⟨_, _, rfl⟩ rfl rfl (Nat.le_of_ble_eq_true rfl) ⟨⟨Nat.le_of_ble_eq_true rfl, Nat.le_of_ble_eq_true rfl⟩, Nat.le_of_ble_eq_true rfl, Nat.le_of_ble_eq_true rfl⟩ ?_
    refine q_icmp_ge 56 dX6_leastSeeds_12 (by decide) (fun _ => ?_) (fun z => absurd (by rw [hE]; exact nI_le (by omega) (by omega)) z)
    refine q_iload_n dX6_leastSeeds_56 rfl rfl ?_
    exact q_iret dX6_leastSeeds_57 rfl (Nat.zero_le _) (Nat.zero_le _) (⟨by rw [show k = E by omega], rfl, rfl⟩)
  | succ d ih =>
    intro k x y ls hk hx hy hl
    subst hx hy
    refine V.at ?_ hl
    refine q_iload_n dX6_leastSeeds_7 rfl rfl ?_
    refine q_aload_n dX6_leastSeeds_8 rfl rfl ?_
    refine q_callVd dX6_leastSeeds_9 wX6_leastSeeds_34 (c_everybody ht) (ht) ⟨_, _, rfl⟩ rfl rfl (Nat.le_of_ble_eq_true rfl) ⟨⟨Nat.le_of_ble_eq_true rfl, Nat.le_of_ble_eq_true rfl⟩, Nat.le_of_ble_eq_true rfl, Nat.le_of_ble_eq_true rfl⟩ ?_
    refine q_icmp_ge 56 dX6_leastSeeds_12 (by decide) (fun z => absurd z (by rw [hE]; exact nI_ge (by omega) (by omega))) (fun _ => ?_)
    refine q_iload_n dX6_leastSeeds_15 rfl rfl ?_
    refine q_callSd dX6_leastSeeds_16 wX6_leastSeeds_28 (c_bitCount) rfl rfl (Nat.le_of_ble_eq_true rfl) ⟨⟨Nat.le_of_ble_eq_true rfl, Nat.le_of_ble_eq_true rfl⟩, Nat.le_of_ble_eq_true rfl, Nat.le_of_ble_eq_true rfl⟩ ?_
    refine q_iload_n dX6_leastSeeds_19 rfl rfl ?_
    refine q_callSd dX6_leastSeeds_20 wX6_leastSeeds_28 (c_bitCount) rfl rfl (Nat.le_of_ble_eq_true rfl) ⟨⟨Nat.le_of_ble_eq_true rfl, Nat.le_of_ble_eq_true rfl⟩, Nat.le_of_ble_eq_true rfl, Nat.le_of_ble_eq_true rfl⟩ ?_
    refine q_icmp_ge 30 dX6_leastSeeds_23 (by decide) (fun cA => ?_) (fun cA => ?_)
    · have e : lsS o n (k + 1) = lsS o n k := by
        simp only [lsS]
        exact if_neg (fun z => absurd z.1 (Int32.not_lt.mpr cA))
      refine q_iconst (v := 0) dX6_leastSeeds_30 rfl ?_
      refine q_istore_n dX6_leastSeeds_31 rfl (by decide) ?_
      refine q_iload_n dX6_leastSeeds_32 rfl rfl ?_
      refine q_if_eq 50 dX6_leastSeeds_33 (by decide) (fun _ => ?_) (fun z => absurd rfl z)
      refine q_iinc1 dX6_leastSeeds_50 rfl (by decide) ?_
      refine q_goto 7 dX6_leastSeeds_53 (by decide) ?_
      exact ih (k + 1) _ _ _ (by omega) e.symm (nI_s k) ⟨rfl, rfl, rfl, trivial⟩
    · refine q_iconst (v := 1) dX6_leastSeeds_26 rfl ?_
      refine q_goto 31 dX6_leastSeeds_27 (by decide) ?_
      refine q_istore_n dX6_leastSeeds_31 rfl (by decide) ?_
      refine q_iload_n dX6_leastSeeds_32 rfl rfl ?_
      refine q_if_eq 50 dX6_leastSeeds_33 (by decide) (fun z => absurd z ((by decide))) (fun _ => ?_)
      refine q_aload_n dX6_leastSeeds_36 rfl rfl ?_
      refine q_iload_n dX6_leastSeeds_37 rfl rfl ?_
      refine q_callVd dX6_leastSeeds_38 wX6_leastSeeds_41 (c_takersFrom ht ho hn) (ht) ⟨_, _, rfl⟩ rfl rfl (Nat.le_of_ble_eq_true rfl) ⟨⟨Nat.le_of_ble_eq_true rfl, Nat.le_of_ble_eq_true rfl⟩, Nat.le_of_ble_eq_true rfl, Nat.le_of_ble_eq_true rfl⟩ ?_
      refine q_aload_n dX6_leastSeeds_41 rfl rfl ?_
      refine q_callVd dX6_leastSeeds_42 wX6_leastSeeds_34 (c_everybody ht) (ht) ⟨_, _, rfl⟩ rfl rfl (Nat.le_of_ble_eq_true rfl) ⟨⟨Nat.le_of_ble_eq_true rfl, Nat.le_of_ble_eq_true rfl⟩, Nat.le_of_ble_eq_true rfl, Nat.le_of_ble_eq_true rfl⟩ ?_
      refine q_icmp_ne 50 dX6_leastSeeds_45 (by decide) (fun cB => ?_) (fun cB => ?_)
      · have e : lsS o n (k + 1) = lsS o n k := by
          simp only [lsS]
          exact if_neg (fun z => cB z.2)
        refine q_iinc1 dX6_leastSeeds_50 rfl (by decide) ?_
        refine q_goto 7 dX6_leastSeeds_53 (by decide) ?_
        exact ih (k + 1) _ _ _ (by omega) e.symm (nI_s k) ⟨rfl, rfl, rfl, trivial⟩
      · have e : lsS o n (k + 1) = nI k := by
          simp only [lsS]
          exact if_pos ⟨Int32.not_le.mp cA, cB⟩
        refine q_iload_n dX6_leastSeeds_48 rfl rfl ?_
        refine q_istore_n dX6_leastSeeds_49 rfl (by decide) ?_
        refine q_iinc1 dX6_leastSeeds_50 rfl (by decide) ?_
        refine q_goto 7 dX6_leastSeeds_53 (by decide) ?_
        exact ih (k + 1) _ _ _ (by omega) e.symm (nI_s k) ⟨rfl, rfl, rfl, trivial⟩
theorem c_leastSeeds {t E : Nat} (ht : hat as h t (ob 6 [.ref a0, .ref a1, .ref a2, .ref a3, .int (nI n)])) (ho : hat as h a3 (aI Γ 8 o)) (hn : n ≤ 8) (hE : evI n = nI E) (hE2 : E < 256) : Det Γ l mX6_leastSeeds rX6_leastSeeds [.ref t] as h (some (.int (lsS o n E))) h := by
  refine Con.of (by decide +kernel) rfl rfl (Nat.le_of_ble_eq_true rfl) ?_
  refine q_aload_n dX6_leastSeeds_0 rfl rfl ?_
  refine q_callVd dX6_leastSeeds_1 wX6_leastSeeds_34 (c_everybody ht) (ht) ⟨_, _, rfl⟩ rfl rfl (Nat.le_of_ble_eq_true rfl) ⟨⟨Nat.le_of_ble_eq_true rfl, Nat.le_of_ble_eq_true rfl⟩, Nat.le_of_ble_eq_true rfl, Nat.le_of_ble_eq_true rfl⟩ ?_
  refine q_istore_n dX6_leastSeeds_4 rfl (by decide) ?_
  refine q_iconst (v := 0) dX6_leastSeeds_5 rfl ?_
  refine q_istore_n dX6_leastSeeds_6 rfl (by decide) ?_
  exact seeds_loop ht ho hn hE hE2 E 0 _ _ _ (by omega) rfl rfl ⟨rfl, rfl, rfl, trivial⟩
end

