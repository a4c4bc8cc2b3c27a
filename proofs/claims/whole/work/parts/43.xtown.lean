/-! LIGHTCOINS (X8): town, over the law's world -/
abbrev mX8_town : mT := (yX8_town, RX8, cX8_town, 3, (some .int), wsX8_town)
abbrev rX8_town : Room := { frames := 11, cells := 0, slots := 0, locals := 252 }
theorem dX8_town_0 : decode cX8_town 0 = .ok (.aload_n 0, 1) := by decide +kernel
theorem dX8_town_1 : decode cX8_town 1 = .ok (.getfield 10, 3) := by decide +kernel
theorem dX8_town_4 : decode cX8_town 4 = .ok (.aload_n 0, 1) := by decide +kernel
theorem dX8_town_5 : decode cX8_town 5 = .ok (.getfield 68, 3) := by decide +kernel
theorem dX8_town_8 : decode cX8_town 8 = .ok (.invokevirtual 95, 3) := by decide +kernel
theorem dX8_town_11 : decode cX8_town 11 = .ok (.istore_n 1, 1) := by decide +kernel
theorem dX8_town_12 : decode cX8_town 12 = .ok (.iload_n 1, 1) := by decide +kernel
theorem dX8_town_13 : decode cX8_town 13 = .ok (.iconst (-1), 1) := by decide +kernel
theorem dX8_town_14 : decode cX8_town 14 = .ok (.if_icmp .eq 8, 3) := by decide +kernel
theorem dX8_town_17 : decode cX8_town 17 = .ok (.bipush (-10), 2) := by decide +kernel
theorem dX8_town_19 : decode cX8_town 19 = .ok (.iload_n 1, 1) := by decide +kernel
theorem dX8_town_20 : decode cX8_town 20 = .ok (.isub, 1) := by decide +kernel
theorem dX8_town_21 : decode cX8_town 21 = .ok (.ireturn, 1) := by decide +kernel
theorem dX8_town_22 : decode cX8_town 22 = .ok (.aload_n 0, 1) := by decide +kernel
theorem dX8_town_23 : decode cX8_town 23 = .ok (.getfield 68, 3) := by decide +kernel
theorem dX8_town_26 : decode cX8_town 26 = .ok (.astore_n 2, 1) := by decide +kernel
theorem dX8_town_27 : decode cX8_town 27 = .ok (.aload_n 0, 1) := by decide +kernel
theorem dX8_town_28 : decode cX8_town 28 = .ok (.aload_n 0, 1) := by decide +kernel
theorem dX8_town_29 : decode cX8_town 29 = .ok (.getfield 64, 3) := by decide +kernel
theorem dX8_town_32 : decode cX8_town 32 = .ok (.putfield 68, 3) := by decide +kernel
theorem dX8_town_35 : decode cX8_town 35 = .ok (.aload_n 0, 1) := by decide +kernel
theorem dX8_town_36 : decode cX8_town 36 = .ok (.aload_n 2, 1) := by decide +kernel
theorem dX8_town_37 : decode cX8_town 37 = .ok (.putfield 64, 3) := by decide +kernel
theorem dX8_town_40 : decode cX8_town 40 = .ok (.aload_n 0, 1) := by decide +kernel
theorem dX8_town_41 : decode cX8_town 41 = .ok (.getfield 10, 3) := by decide +kernel
theorem dX8_town_44 : decode cX8_town 44 = .ok (.iconst 0, 1) := by decide +kernel
theorem dX8_town_45 : decode cX8_town 45 = .ok (.putfield 92, 3) := by decide +kernel
theorem dX8_town_48 : decode cX8_town 48 = .ok (.aload_n 0, 1) := by decide +kernel
theorem dX8_town_49 : decode cX8_town 49 = .ok (.getfield 19, 3) := by decide +kernel
theorem dX8_town_52 : decode cX8_town 52 = .ok (.invokevirtual 99, 3) := by decide +kernel
theorem dX8_town_55 : decode cX8_town 55 = .ok (.aload_n 0, 1) := by decide +kernel
theorem dX8_town_56 : decode cX8_town 56 = .ok (.getfield 36, 3) := by decide +kernel
theorem dX8_town_59 : decode cX8_town 59 = .ok (.invokevirtual 102, 3) := by decide +kernel
theorem dX8_town_62 : decode cX8_town 62 = .ok (.aload_n 0, 1) := by decide +kernel
theorem dX8_town_63 : decode cX8_town 63 = .ok (.getfield 57, 3) := by decide +kernel
theorem dX8_town_66 : decode cX8_town 66 = .ok (.iconst 0, 1) := by decide +kernel
theorem dX8_town_67 : decode cX8_town 67 = .ok (.aaload, 1) := by decide +kernel
theorem dX8_town_68 : decode cX8_town 68 = .ok (.iconst 0, 1) := by decide +kernel
theorem dX8_town_69 : decode cX8_town 69 = .ok (.putfield 105, 3) := by decide +kernel
theorem dX8_town_72 : decode cX8_town 72 = .ok (.aload_n 0, 1) := by decide +kernel
theorem dX8_town_73 : decode cX8_town 73 = .ok (.getfield 57, 3) := by decide +kernel
theorem dX8_town_76 : decode cX8_town 76 = .ok (.iconst 1, 1) := by decide +kernel
theorem dX8_town_77 : decode cX8_town 77 = .ok (.aaload, 1) := by decide +kernel
theorem dX8_town_78 : decode cX8_town 78 = .ok (.iconst 0, 1) := by decide +kernel
theorem dX8_town_79 : decode cX8_town 79 = .ok (.putfield 105, 3) := by decide +kernel
theorem dX8_town_82 : decode cX8_town 82 = .ok (.aload_n 0, 1) := by decide +kernel
theorem dX8_town_83 : decode cX8_town 83 = .ok (.getfield 64, 3) := by decide +kernel
theorem dX8_town_86 : decode cX8_town 86 = .ok (.getfield 109, 3) := by decide +kernel
theorem dX8_town_89 : decode cX8_town 89 = .ok (.ireturn, 1) := by decide +kernel
theorem iX8_town_8 : ∀ w ∈ wsX80, w ∈ wsX8_town := fun w h => List.mem_cons_of_mem _ (List.mem_append_left _ (List.mem_append_left _ (List.mem_append_left _ (List.mem_append_left _ (List.mem_append_left _ (List.mem_append_right _ h))))))
theorem fX8_town_10 : FL mX8_town 10 8 0 := ⟨_, _, _, rfl, by decide, iX8_town_8, by decide +kernel⟩
theorem fX8_town_19 : FL mX8_town 19 8 1 := ⟨_, _, _, rfl, by decide, iX8_town_8, by decide +kernel⟩
theorem fX8_town_36 : FL mX8_town 36 8 4 := ⟨_, _, _, rfl, by decide, iX8_town_8, by decide +kernel⟩
theorem fX8_town_57 : FL mX8_town 57 8 7 := ⟨_, _, _, rfl, by decide, iX8_town_8, by decide +kernel⟩
theorem fX8_town_64 : FL mX8_town 64 8 8 := ⟨_, _, _, rfl, by decide, iX8_town_8, by decide +kernel⟩
theorem pX8_town_64 : FP mX8_town 64 8 8 (.object "LightCoins$Town") false := ⟨_, _, _, tyX8, rfl, by decide, iX8_town_8, by decide +kernel, tyX8_ok, nmX8, rfl, rfl, fun z => absurd z (by decide)⟩
theorem fX8_town_68 : FL mX8_town 68 8 9 := ⟨_, _, _, rfl, by decide, iX8_town_8, by decide +kernel⟩
theorem pX8_town_68 : FP mX8_town 68 8 9 (.object "LightCoins$Town") false := ⟨_, _, _, tyX8, rfl, by decide, iX8_town_8, by decide +kernel, tyX8_ok, nmX8, rfl, rfl, fun z => absurd z (by decide)⟩
theorem iX8_town_5 : ∀ w ∈ wsX50, w ∈ wsX8_town := fun w h => List.mem_cons_of_mem _ (List.mem_append_left _ (List.mem_append_left _ (List.mem_append_left _ (List.mem_append_left _ (List.mem_append_right _ h)))))
theorem pX8_town_92 : FP mX8_town 92 5 1 .int false := ⟨_, _, _, tyX5, rfl, by decide, iX8_town_5, by decide +kernel, tyX5_ok, nmX5, rfl, rfl, fun z => absurd z (by decide)⟩
theorem iX8_town_1 : ∀ w ∈ wsX10, w ∈ wsX8_town := fun w h => List.mem_cons_of_mem _ (List.mem_append_left _ (List.mem_append_left _ (List.mem_append_left _ (List.mem_append_right _ h))))
theorem pX8_town_105 : FP mX8_town 105 1 3 .boolean false := ⟨_, _, _, tyX1, rfl, by decide, iX8_town_1, by decide +kernel, tyX1_ok, nmX1, rfl, rfl, fun z => absurd z (by decide)⟩
theorem iX8_town_6 : ∀ w ∈ wsX60, w ∈ wsX8_town := fun w h => List.mem_cons_of_mem _ (List.mem_append_left _ (List.mem_append_left _ (List.mem_append_right _ h)))
theorem fX8_town_109 : FL mX8_town 109 6 4 := ⟨_, _, _, rfl, by decide, iX8_town_6, by decide +kernel⟩
set_option maxRecDepth 20000 in
theorem ggX8_town_X5_readInto : GoodIn wsX8_town wsX5_readInto := goodIn_r _ [14, 15, 16, 17, 18, 19, 20, 21, 13, 22, 23, 24, 25, 26, 27, 28, 29, 30, 31, 32, 33, 34, 35, 36, 37, 38, 39, 40, 41, 42, 43, 44, 45, 46, 47, 48, 49, 50, 51, 52, 53, 54, 55, 56, 57, 58, 59, 60, 61, 62, 63, 64, 65, 66, 67, 68, 69, 70, 71, 72, 73, 74, 75, 76, 77, 78, 79, 80, 81, 82, 83, 84, 85, 86, 87, 88, 89, 90, 91, 92, 93, 94, 95, 96, 97, 98, 99, 100, 101, 102, 103, 104, 134, 135, 136, 137, 138, 139, 144, 145, 146, 147, 148] (by decide +kernel) (by decide +kernel)
set_option maxRecDepth 20000 in
theorem gX8_town_X5_readInto : GoodIn wsX8_town (wsV RX8 95 RX5 yX5_readInto wsX5_readInto) := goodIn_app (goodIn_of _ (by decide +kernel)) ggX8_town_X5_readInto
theorem wX8_town_95 : CWV mX8_town 95 mX5_readInto 1 := ⟨gX8_town_X5_readInto, ⟨_, rfl⟩, rfl, by decide +kernel, by decide +kernel, by decide +kernel⟩
set_option maxRecDepth 20000 in
theorem ggX8_town_X4_empty : GoodIn wsX8_town wsX4_empty := goodIn_r _ [109, 110, 149] (by decide +kernel) (by decide +kernel)
set_option maxRecDepth 20000 in
theorem gX8_town_X4_empty : GoodIn wsX8_town (wsV RX8 99 RX4 yX4_empty wsX4_empty) := goodIn_app (goodIn_of _ (by decide +kernel)) ggX8_town_X4_empty
theorem wX8_town_99 : CWV mX8_town 99 mX4_empty 0 := ⟨gX8_town_X4_empty, ⟨_, rfl⟩, rfl, by decide +kernel, by decide +kernel, by decide +kernel⟩
set_option maxRecDepth 20000 in
theorem ggX8_town_X3_forget : GoodIn wsX8_town wsX3_forget := goodIn_r _ [115, 116, 117, 118, 119, 120, 150, 151, 152, 153, 154] (by decide +kernel) (by decide +kernel)
set_option maxRecDepth 20000 in
theorem gX8_town_X3_forget : GoodIn wsX8_town (wsV RX8 102 RX3 yX3_forget wsX3_forget) := goodIn_app (goodIn_of _ (by decide +kernel)) ggX8_town_X3_forget
theorem wX8_town_102 : CWV mX8_town 102 mX3_forget 0 := ⟨gX8_town_X3_forget, ⟨_, rfl⟩, rfl, by decide +kernel, by decide +kernel, by decide +kernel⟩
theorem H6_self {Γ : gT} {q tw aw ax ay ao n : Nat} {h : aH} {T : va_E} {w x y o : Nat → Int32} (hq : h q = T) (ht : h tw = ob 6 [.ref aw, .ref ax, .ref ay, .ref ao, .int (nI n)]) (hw : h aw = aI Γ 8 w) (hx : h ax = aI Γ 8 x) (hy : h ay = aI Γ 8 y) (ho : h ao = aI Γ 8 o) : h = H6 Γ q tw aw ax ay ao h T n w x y o := by
  funext j
  unfold H6
  by_cases e1 : j = q
  · rw [if_pos e1, e1]; exact hq
  rw [if_neg e1]
  by_cases e2 : j = tw
  · rw [if_pos e2, e2]; exact ht
  rw [if_neg e2]
  by_cases e3 : j = aw
  · rw [if_pos e3, e3]; exact hw
  rw [if_neg e3]
  by_cases e4 : j = ax
  · rw [if_pos e4, e4]; exact hx
  rw [if_neg e4]
  by_cases e5 : j = ay
  · rw [if_pos e5, e5]; exact hy
  rw [if_neg e5]
  by_cases e6 : j = ao
  · rw [if_pos e6, e6]; exact ho
  rw [if_neg e6]
theorem H6_ch {Γ : gT} {q tw aw ax ay ao n : Nat} {h : aH} {T : va_E} {w x y o : Nat → Int32} : H6 Γ q tw aw ax ay ao h T n w x y o = hset (hset (hset (hset (hset (hset h ao (aI Γ 8 o)) ay (aI Γ 8 y)) ax (aI Γ 8 x)) aw (aI Γ 8 w)) tw (ob 6 [.ref aw, .ref ax, .ref ay, .ref ao, .int (nI n)])) q T := rfl
def φD (φ : fT) (w x y o : Nat → Int32) : fT := fun i => if i = 29 then w else if i = 30 then x else if i = 31 then y else if i = 32 then o else φ i
def νD (ν : Nat → Nat) (S : sT) (n : Nat) : Nat → Nat := fun i => if i = 2 then S.1 else if i = 3 then S.2.1 else if i = 4 then S.2.2.1 else if i = 5 then S.2.2.2 else if i = 7 then n else ν i
section
variable {Γ : gT} {l : Launch} {as : List Nat} {A : Nat → Nat} {h : aH} {φ : fT} {z : Nat → Int32} {ν : Nat → Nat} {d3 d4 : Int32} {tc : Int64} {gw : Nat → Int64} {t : Nat → Nat}
theorem D7_of (hI : IL as A h (CL Γ A φ z ν d3 d4 tc gw)) : D7 as (A 1) (A 28) (A 29) (A 30) (A 31) (A 32) (A 2) :=
  ⟨⟨(K1 hI).1, (K28 hI).1, (K29 hI).1, (K30 hI).1, (K31 hI).1, (K32 hI).1, (K2 hI).1⟩, hI.ne 28 1 rfl rfl rfl, ⟨hI.ne 29 1 rfl rfl rfl, hI.ne 29 28 rfl rfl rfl⟩, ⟨hI.ne 30 1 rfl rfl rfl, hI.ne 30 28 rfl rfl rfl, hI.ne 30 29 rfl rfl rfl⟩, ⟨hI.ne 31 1 rfl rfl rfl, hI.ne 31 28 rfl rfl rfl, hI.ne 31 29 rfl rfl rfl, hI.ne 31 30 rfl rfl rfl⟩, ⟨hI.ne 32 1 rfl rfl rfl, hI.ne 32 28 rfl rfl rfl, hI.ne 32 29 rfl rfl rfl, hI.ne 32 30 rfl rfl rfl, hI.ne 32 31 rfl rfl rfl⟩, ⟨hI.ne 2 1 rfl rfl rfl, hI.ne 2 28 rfl rfl rfl, hI.ne 2 29 rfl rfl rfl, hI.ne 2 30 rfl rfl rfl, hI.ne 2 31 rfl rfl rfl, hI.ne 2 32 rfl rfl rfl⟩⟩
theorem IL_H6 (hI : IL as A h (CL Γ A φ z ν d3 d4 tc gw)) {S : sT} {n : Nat} {w x y o : Nat → Int32} : IL as A (H6 Γ (A 1) (A 28) (A 29) (A 30) (A 31) (A 32) h (tqS (A 2) (ν 1) S) n w x y o) (CL Γ A (φD φ w x y o) z (νD ν S n) d3 d4 tc gw) := by
  rw [H6_ch]
  exact (((((hI.set 32 (aI Γ 8 o) rfl).set 31 (aI Γ 8 y) rfl).set 30 (aI Γ 8 x) rfl).set 29 (aI Γ 8 w) rfl).set 28 (ob 6 [.ref (A 29), .ref (A 30), .ref (A 31), .ref (A 32), .int (nI n)]) rfl).set 1 (tqS (A 2) (ν 1) S) rfl
/-- the cells behind a town that was read -/
def twC (Γ : gT) (A : Nat → Nat) (φ : fT) (z : Nat → Int32) (ν : Nat → Nat) (d3 d4 : Int32) (tc : Int64) (gw : Nat → Int64) : List va_E := ((((((CL Γ A φ z ν d3 d4 tc gw).set 0 (xo (A 1) (A 3) (A 5) (A 7) (A 9) (A 10) (A 14) (A 16) (A 28) (A 23) (φ 40 0) (φ 41 0) tc)).set 1 (tq (A 2) 0 (ν 2) (ν 3) (ν 4) (ν 5))).set 4 (aI Γ 80 (zeroF 80 (φ 4)))).set 9 (ob 3 [.int (-9), .int (-9), .int (-9), .int (-9), .int 0])).set 17 (ob 1 [.ref (A 18), .int (φ 40 1), .int (φ 41 1), .int 0])).set 20 (ob 1 [.ref (A 21), .int (φ 40 2), .int (φ 41 2), .int 0])
def qT8 (Γ : gT) (as : List Nat) (A : Nat → Nat) (φ : fT) (z : Nat → Int32) (ν : Nat → Nat) (d3 d4 : Int32) (tc : Int64) (gw : Nat → Int64) (R : Nat ⊕ List iT) : qT := fun r as' h' => as' = as ∧ match R with
  | .inl g => g ≤ ν 1 ∧ r = some (.int (-10 - nI g)) ∧ ∃ (S' : sT) (n' : Nat) (w' x' y' o' : Nat → Int32), sOK (ν 1) S' ∧ IL as A h' (CL Γ A (φD φ w' x' y' o') z (νD ν S' n') d3 d4 tc gw)
  | .inr L => r = some (.int (nI L.length)) ∧ ∃ S' : sT, sOK (ν 1) S' ∧ IL as A h' (twC Γ A (φD φ (putA (fun i => i.1) (φ 29) 0 L) (putA (fun i => i.2.1) (φ 30) 0 L) (putA (fun i => i.2.2.1) (φ 31) 0 L) (putA (fun i => i.2.2.2) (φ 32) 0 L)) z (νD ν S' L.length) d3 d4 tc gw)
set_option maxHeartbeats 4000000 in
theorem c_town (hI : IL as A h (CL Γ A φ z ν d3 d4 tc gw)) (ht : ∀ j, j < ν 1 → φ 2 j = nI (t j) ∧ t j < 256) (hl : ν 1 ≤ 300) (hv : ν 5 ≤ 100) : Con Γ l mX8_town rX8_town [.ref (A 0)] as h (qT8 Γ as A φ z ν d3 d4 tc gw (twnL t (ν 1) 8 (advF t (ν 1) 0 (ν 5)))) := by
  refine Con.of (by decide +kernel) rfl rfl (Nat.le_of_ble_eq_true rfl) ?_
  refine q_aload_n dX8_town_0 rfl rfl ?_
  refine q_get dX8_town_1 fX8_town_10 (K0 hI) rfl ?_
  refine q_aload_n dX8_town_4 rfl rfl ?_
  refine q_get dX8_town_5 fX8_town_68 (K0 hI) rfl ?_
  refine V.hp ?_ (H6_self (K1 hI).2 (K28 hI).2 (K29 hI).2 (K30 hI).2 (K31 hI).2 (K32 hI).2)
  refine q_callV dX8_town_8 wX8_town_95 (at_q (D7_of hI)) ⟨_, _, rfl⟩ (c_readInto (t := t) (D7_of hI) (K2 hI).2 ht hl hv) rfl rfl (Nat.le_of_ble_eq_true rfl) ⟨⟨Nat.le_of_ble_eq_true rfl, Nat.le_of_ble_eq_true rfl⟩, Nat.le_of_ble_eq_true rfl, Nat.le_of_ble_eq_true rfl⟩ (fun r as' h' hq => ?_)
  obtain ⟨rfl, hq⟩ := hq
  cases hc : twnL t (ν 1) 8 (advF t (ν 1) 0 (ν 5)) with
  | inl g =>
    rw [hc] at hq
    obtain ⟨hg, rfl, S', n', w', x', y', o', hS', rfl⟩ := hq
    have hI1 := IL_H6 hI (S := S') (n := n') (w := w') (x := x') (y := y') (o := o')
    refine q_istore_n dX8_town_11 rfl (by decide) ?_
    refine q_iload_n dX8_town_12 rfl rfl ?_
    refine q_iconst (v := (-1)) dX8_town_13 rfl ?_
    refine q_icmp_eq 22 dX8_town_14 (by decide) (fun z => absurd z (fun e => nI_pos (n := g) (by omega) (by rw [e]; decide))) (fun _ => ?_)
    refine q_bipush (v := (-10)) dX8_town_17 rfl ?_
    refine q_iload_n dX8_town_19 rfl rfl ?_
    refine q_isub dX8_town_20 ?_
    exact q_iret dX8_town_21 rfl (Nat.zero_le _) (Nat.zero_le _) (⟨rfl, hg, rfl, S', n', w', x', y', o', hS', hI1⟩)
  | inr L =>
    rw [hc] at hq
    obtain ⟨rfl, S', hS', rfl⟩ := hq
    rw [Nat.zero_add L.length]
    have hI1 := IL_H6 hI (S := S') (n := L.length) (w := putA (fun i => i.1) (φ 29) 0 L) (x := putA (fun i => i.2.1) (φ 30) 0 L) (y := putA (fun i => i.2.2.1) (φ 31) 0 L) (o := putA (fun i => i.2.2.2) (φ 32) 0 L)
    revert hI1
    generalize H6 Γ (A 1) (A 28) (A 29) (A 30) (A 31) (A 32) h (tqS (A 2) (ν 1) S') L.length (putA (fun i => i.1) (φ 29) 0 L) (putA (fun i => i.2.1) (φ 30) 0 L) (putA (fun i => i.2.2.1) (φ 31) 0 L) (putA (fun i => i.2.2.2) (φ 32) 0 L) = h1
    intro hI1
    have hI2 := hI1.set 0 (xo (A 1) (A 3) (A 5) (A 7) (A 9) (A 10) (A 14) (A 16) (A 23) (A 23) (φ 40 0) (φ 41 0) tc) rfl
    have hI3 := hI2.set 0 (xo (A 1) (A 3) (A 5) (A 7) (A 9) (A 10) (A 14) (A 16) (A 28) (A 23) (φ 40 0) (φ 41 0) tc) rfl
    have hI4 := hI3.set 1 (tq (A 2) 0 S'.1 S'.2.1 S'.2.2.1 S'.2.2.2) rfl
    have hI5 := hI4.set 4 (aI Γ 80 (zeroF 80 (φ 4))) rfl
    have hI6 := hI5.set 9 (ob 3 [.int (-9), .int (-9), .int (-9), .int (-9), .int 0]) rfl
    have hI7 := hI6.set 17 (ob 1 [.ref (A 18), .int (φ 40 1), .int (φ 41 1), .int 0]) rfl
    have hI8 := hI7.set 20 (ob 1 [.ref (A 21), .int (φ 40 2), .int (φ 41 2), .int 0]) rfl
    refine q_istore_n dX8_town_11 rfl (by decide) ?_
    refine q_iload_n dX8_town_12 rfl rfl ?_
    refine q_iconst (v := (-1)) dX8_town_13 rfl ?_
    refine q_icmp_eq 22 dX8_town_14 (by decide) (fun _ => ?_) (fun z => absurd (rfl) z)
    refine q_aload_n dX8_town_22 rfl rfl ?_
    refine q_get dX8_town_23 fX8_town_68 (K0 hI1) rfl ?_
    refine q_astore_n dX8_town_26 rfl (by decide) ?_
    refine q_aload_n dX8_town_27 rfl rfl ?_
    refine q_aload_n dX8_town_28 rfl rfl ?_
    refine q_get dX8_town_29 fX8_town_64 (K0 hI1) rfl ?_
    refine q_put dX8_town_32 pX8_town_68 (K0 hI1) rfl rfl (Nat.le_of_ble_eq_true rfl) ?_
    refine q_aload_n dX8_town_35 rfl rfl ?_
    refine q_aload_n dX8_town_36 rfl rfl ?_
    refine q_put dX8_town_37 pX8_town_64 (hI2.at 0 rfl) rfl rfl (Nat.le_of_ble_eq_true rfl) ?_
    refine q_aload_n dX8_town_40 rfl rfl ?_
    refine q_get dX8_town_41 fX8_town_10 (hI3.at 0 rfl) rfl ?_
    refine q_iconst (v := 0) dX8_town_44 rfl ?_
    refine q_put dX8_town_45 pX8_town_92 (hI3.at 1 rfl) rfl rfl (Nat.le_of_ble_eq_true rfl) ?_
    refine q_aload_n dX8_town_48 rfl rfl ?_
    refine q_get dX8_town_49 fX8_town_19 (hI4.at 0 rfl) rfl ?_
    refine q_callVd dX8_town_52 wX8_town_99 (c_empty (hI4.at 3 rfl) (hI4.at 4 rfl)) (hI4.at 3 rfl) ⟨_, _, rfl⟩ rfl rfl (Nat.le_of_ble_eq_true rfl) ⟨⟨Nat.le_of_ble_eq_true rfl, Nat.le_of_ble_eq_true rfl⟩, Nat.le_of_ble_eq_true rfl, Nat.le_of_ble_eq_true rfl⟩ ?_
    refine q_aload_n dX8_town_55 rfl rfl ?_
    refine q_get dX8_town_56 fX8_town_36 (hI5.at 0 rfl) rfl ?_
    refine q_callVd dX8_town_59 wX8_town_102 (c_forget (hI5.at 9 rfl)) (hI5.at 9 rfl) ⟨_, _, rfl⟩ rfl rfl (Nat.le_of_ble_eq_true rfl) ⟨⟨Nat.le_of_ble_eq_true rfl, Nat.le_of_ble_eq_true rfl⟩, Nat.le_of_ble_eq_true rfl, Nat.le_of_ble_eq_true rfl⟩ ?_
    refine q_aload_n dX8_town_62 rfl rfl ?_
    refine q_get dX8_town_63 fX8_town_57 (hI6.at 0 rfl) rfl ?_
    refine q_iconst (v := 0) dX8_town_66 rfl ?_
    refine q_aald dX8_town_67 (hI6.at 16 rfl) (in_nI (k := 0) (by omega) (by omega)) ?_
    refine q_iconst (v := 0) dX8_town_68 rfl ?_
    refine q_put dX8_town_69 pX8_town_105 (hI6.at 17 rfl) rfl rfl (Nat.le_of_ble_eq_true rfl) ?_
    refine q_aload_n dX8_town_72 rfl rfl ?_
    refine q_get dX8_town_73 fX8_town_57 (hI7.at 0 rfl) rfl ?_
    refine q_iconst (v := 1) dX8_town_76 rfl ?_
    refine q_aald dX8_town_77 (hI7.at 16 rfl) (in_nI (k := 1) (by omega) (by omega)) ?_
    refine q_iconst (v := 0) dX8_town_78 rfl ?_
    refine q_put dX8_town_79 pX8_town_105 (hI7.at 20 rfl) rfl rfl (Nat.le_of_ble_eq_true rfl) ?_
    refine q_aload_n dX8_town_82 rfl rfl ?_
    refine q_get dX8_town_83 fX8_town_64 (hI8.at 0 rfl) rfl ?_
    refine q_get dX8_town_86 fX8_town_109 (hI8.at 28 rfl) rfl ?_
    exact q_iret dX8_town_89 rfl (Nat.zero_le _) (Nat.zero_le _) (⟨rfl, rfl, S', hS', hI8.l rfl⟩)
end

