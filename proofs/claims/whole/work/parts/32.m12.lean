/-! THE REFERENCE (X9): the first day, seeds, shabby -/
section
variable {Γ : gT} {l : Launch} {as : List Nat} {h : aH} {m : Nat} {tc : Int64} {r : Nat → Nat} {z : Nat → Int32} {n k lim : Nat} {f u c ya lw x o lo mt kp : Nat → Int32}
theorem n_first_bad {s q : Int32} (hb : (s < 0 ∨ 255 < s) ∨ (q < 0 ∨ 1 < q)) : Det Γ l mX9_first rX9_first [.ref m, .int s, .int q] as h (some (.int (-1))) h := by
  refine Con.of (by decide +kernel) rfl rfl (Nat.le_of_ble_eq_true rfl) ?_
  refine q_iload_n dX9_first_0 rfl rfl ?_
  refine q_i2l dX9_first_1 ?_
  refine q_lconst (v := 0) dX9_first_2 rfl ?_
  refine q_ldc2 (v := 255) dX9_first_3 (by decide +kernel) ?_
  refine q_callSd dX9_first_6 wX9_first_60 (n_in) rfl rfl (Nat.le_of_ble_eq_true rfl) ⟨⟨Nat.le_of_ble_eq_true rfl, Nat.le_of_ble_eq_true rfl⟩, Nat.le_of_ble_eq_true rfl, Nat.le_of_ble_eq_true rfl⟩ ?_
  refine q_if_eq 22 dX9_first_9 (by decide) (fun cA => ?_) (fun cA => ?_)
  · refine q_iconst (v := (-1)) dX9_first_22 rfl ?_
    exact q_iret dX9_first_23 rfl (Nat.zero_le _) (Nat.zero_le _) (⟨rfl, rfl, rfl⟩)
  · refine q_iload_n dX9_first_12 rfl rfl ?_
    refine q_i2l dX9_first_13 ?_
    refine q_lconst (v := 0) dX9_first_14 rfl ?_
    refine q_lconst (v := 1) dX9_first_15 rfl ?_
    refine q_callSd dX9_first_16 wX9_first_60 (n_in) rfl rfl (Nat.le_of_ble_eq_true rfl) ⟨⟨Nat.le_of_ble_eq_true rfl, Nat.le_of_ble_eq_true rfl⟩, Nat.le_of_ble_eq_true rfl, Nat.le_of_ble_eq_true rfl⟩ ?_
    refine q_if_ne 24 dX9_first_19 (by decide) (fun cE => ?_) (fun cE => ?_)
    · exact absurd hb (by rintro (e | e); exact cA (by rw [inB_no (a := 0) (b := 255) (by decide) (by decide) e]; rfl); exact cE (by rw [inB_no (a := 0) (b := 1) (by decide) (by decide) e]; rfl))
    · refine q_iconst (v := (-1)) dX9_first_22 rfl ?_
      exact q_iret dX9_first_23 rfl (Nat.zero_le _) (Nat.zero_le _) (⟨rfl, rfl, rfl⟩)
theorem n_first {s q : Int32} {d : Nat} (hs0 : ¬ s < 0) (hs : s ≤ 255) (hq : isUL q = true) (hn8 : n ≤ 8) (hM : hat as h m (mo tc r z)) (hn : z 3 = nI n) (ho : hat as h (r 7) (aI Γ 16 o)) (hd : moS o (spI o n (s &&& evI n) d) n = 0) (hne : ∀ k, k < d → ¬ moS o (spI o n (s &&& evI n) k) n = 0) : Det Γ l mX9_first rX9_first [.ref m, .int s, .int q] as h (some (.int (if q = 0 then spI o n (s &&& evI n) d else nI d))) (hset h m (mo tc r (upd z 24 (nI d)))) := by
  have hin : inB s.toInt64 0 255 = true := by
    rw [inB_i (lo := 0) (hi := 255) (a := 0) (b := 255) (by decide) (by decide), Bool.and_eq_true]
    exact ⟨decide_eq_true (Int32.not_lt.mp hs0), decide_eq_true hs⟩
  refine Con.of (by decide +kernel) rfl rfl (Nat.le_of_ble_eq_true rfl) ?_
  refine q_iload_n dX9_first_0 rfl rfl ?_
  refine q_i2l dX9_first_1 ?_
  refine q_lconst (v := 0) dX9_first_2 rfl ?_
  refine q_ldc2 (v := 255) dX9_first_3 (by decide +kernel) ?_
  refine q_callSd dX9_first_6 wX9_first_60 (n_in) rfl rfl (Nat.le_of_ble_eq_true rfl) ⟨⟨Nat.le_of_ble_eq_true rfl, Nat.le_of_ble_eq_true rfl⟩, Nat.le_of_ble_eq_true rfl, Nat.le_of_ble_eq_true rfl⟩ ?_
  refine q_if_eq 22 dX9_first_9 (by decide) (fun z => absurd z (by rw [hin]; decide)) (fun _ => ?_)
  refine q_iload_n dX9_first_12 rfl rfl ?_
  refine q_i2l dX9_first_13 ?_
  refine q_lconst (v := 0) dX9_first_14 rfl ?_
  refine q_lconst (v := 1) dX9_first_15 rfl ?_
  refine q_callSd dX9_first_16 wX9_first_60 (n_in) rfl rfl (Nat.le_of_ble_eq_true rfl) ⟨⟨Nat.le_of_ble_eq_true rfl, Nat.le_of_ble_eq_true rfl⟩, Nat.le_of_ble_eq_true rfl, Nat.le_of_ble_eq_true rfl⟩ ?_
  refine q_if_ne 24 dX9_first_19 (by decide) (fun _ => ?_) (fun z => absurd z (by rw [inB_UL, hq]; decide))
  refine q_aload_n dX9_first_24 rfl rfl ?_
  refine q_iload_n dX9_first_25 rfl rfl ?_
  refine q_callVd dX9_first_26 wX9_first_225 (n_spread hn8 hM hn ho hd hne) (hM) ⟨_, _, rfl⟩ rfl rfl (Nat.le_of_ble_eq_true rfl) ⟨⟨Nat.le_of_ble_eq_true rfl, Nat.le_of_ble_eq_true rfl⟩, Nat.le_of_ble_eq_true rfl, Nat.le_of_ble_eq_true rfl⟩ ?_
  refine q_istore_n dX9_first_29 rfl (by decide) ?_
  refine q_iload_n dX9_first_30 rfl rfl ?_
  refine q_if_ne 38 dX9_first_31 (by decide) (fun cA => ?_) (fun cA => ?_)
  · refine q_aload_n dX9_first_38 rfl rfl ?_
    refine q_get dX9_first_39 fX9_first_219 (hat_set hM) rfl ?_
    exact q_iret dX9_first_42 rfl (Nat.zero_le _) (Nat.zero_le _) ⟨by rw [if_neg cA]; rfl, rfl, rfl⟩
  · refine q_iload_n dX9_first_34 rfl rfl ?_
    refine q_goto 42 dX9_first_35 (by decide) ?_
    exact q_iret dX9_first_42 rfl (Nat.zero_le _) (Nat.zero_le _) ⟨by rw [if_pos cA], rfl, rfl⟩
theorem n_seeds_bad {q : Int32} (hb : isUL q = false) : Det Γ l mX9_seeds rX9_seeds [.ref m, .int q] as h (some (.int (-1))) h := by
  refine Con.of (by decide +kernel) rfl rfl (Nat.le_of_ble_eq_true rfl) ?_
  refine q_iload_n dX9_seeds_0 rfl rfl ?_
  refine q_i2l dX9_seeds_1 ?_
  refine q_lconst (v := 0) dX9_seeds_2 rfl ?_
  refine q_lconst (v := 1) dX9_seeds_3 rfl ?_
  refine q_callSd dX9_seeds_4 wX9_seeds_60 (n_in) rfl rfl (Nat.le_of_ble_eq_true rfl) ⟨⟨Nat.le_of_ble_eq_true rfl, Nat.le_of_ble_eq_true rfl⟩, Nat.le_of_ble_eq_true rfl, Nat.le_of_ble_eq_true rfl⟩ ?_
  refine q_if_ne 12 dX9_seeds_7 (by decide) (fun z => absurd (by rw [inB_UL, hb]; decide) z) (fun _ => ?_)
  refine q_iconst (v := (-1)) dX9_seeds_10 rfl ?_
  exact q_iret dX9_seeds_11 rfl (Nat.zero_le _) (Nat.zero_le _) (⟨rfl, rfl, rfl⟩)
theorem n_seeds {q : Int32} {E : Nat} {F : Nat → Int32} (hE : evI n = nI E) (hE2 : E < 256) (hq : isUL q = true) (hn8 : n ≤ 8) (hM : hat as h m (mo tc r z)) (hn : z 3 = nI n) (ho : hat as h (r 7) (aI Γ 16 o)) (hF : ∀ j, j < E → ∃ d, moS o (spI o n (nI j &&& evI n) d) n = 0 ∧ (∀ k, k < d → ¬ moS o (spI o n (nI j &&& evI n) k) n = 0) ∧ spI o n (nI j &&& evI n) d = F j) : Con Γ l mX9_seeds rX9_seeds [.ref m, .int q] as h (fun rr as' h' => as' = as ∧ rr = some (.int (if q = 1 then sdS F E E else bsS (sdS F E E) 8)) ∧ ∃ v : Int32, h' = hset h m (mo tc r (upd z 24 v))) := by
  have e1 := hat_ao ho hM
  have xM : ∀ v : Int32, hat as (hset h m (mo tc r (upd z 24 v))) m (mo tc r (upd z 24 v)) := fun v => hat_set hM
  have xo : ∀ v : Int32, hat as (hset h m (mo tc r (upd z 24 v))) (r 7) (aI Γ 16 o) := fun v => hat_ne ho e1
  have key : ∀ (c j : Nat) (v3 v4 v24 : Int32) (ls : List (Nat × Value)), c + j = E → v3 = sdS F E j → v4 + 1 = nI c → lin ls [(0, .ref m), (1, .int q), (2, .int (nI E)), (3, .int v3), (4, .int v4)] → V Γ l mX9_seeds rX9_seeds (Zm Γ rX9_seeds (fun rr as' h' => as' = as ∧ rr = some (.int (if q = 1 then sdS F E E else bsS (sdS F E E) 8)) ∧ ∃ v : Int32, h' = hset h m (mo tc r (upd z 24 v)))) 0 0 28 ls [] as (hset h m (mo tc r (upd z 24 v24))) := by
    intro c
    induction c with
    | zero =>
      intro j v3 v4 v24 ls hj hv3 hv4 hl
      have hjE : j = E := by omega
      subst hjE hv3
      refine V.at ?_ hl
      refine q_iload dX9_seeds_28 rfl ?_
      refine q_if_lt 68 dX9_seeds_30 (by decide) (fun _ => ?_) (fun z => absurd ((pred_lt hv4 (by omega) (by omega)).mpr (Nat.zero_le 0)) z)
      refine q_iload_n dX9_seeds_68 rfl rfl ?_
      refine q_iconst (v := 1) dX9_seeds_69 rfl ?_
      refine q_icmp_ne 77 dX9_seeds_70 (by decide) (fun cA => ?_) (fun cA => ?_)
      · refine q_iload_n dX9_seeds_77 rfl rfl ?_
        refine q_callSd dX9_seeds_78 wX9_seeds_222 (n_bitsIn) rfl rfl (Nat.le_of_ble_eq_true rfl) ⟨⟨Nat.le_of_ble_eq_true rfl, Nat.le_of_ble_eq_true rfl⟩, Nat.le_of_ble_eq_true rfl, Nat.le_of_ble_eq_true rfl⟩ ?_
        exact q_iret dX9_seeds_81 rfl (Nat.zero_le _) (Nat.zero_le _) ⟨rfl, by rw [if_neg cA], ⟨_, rfl⟩⟩
      · refine q_iload_n dX9_seeds_73 rfl rfl ?_
        refine q_goto 81 dX9_seeds_74 (by decide) ?_
        exact q_iret dX9_seeds_81 rfl (Nat.zero_le _) (Nat.zero_le _) ⟨rfl, by rw [if_pos cA], ⟨_, rfl⟩⟩
    | succ c ih =>
      intro j v3 v4 v24 ls hj hv3 hv4 hl
      have hv4 := pred_eq hv4
      subst hv3 hv4
      refine V.at ?_ hl
      have st : ∀ (w24 p : Int32), p = sdS F E (j + 1) → V Γ l mX9_seeds rX9_seeds (Zm Γ rX9_seeds (fun rr as' h' => as' = as ∧ rr = some (.int (if q = 1 then sdS F E E else bsS (sdS F E E) 8)) ∧ ∃ v : Int32, h' = hset h m (mo tc r (upd z 24 v)))) 0 0 61 [(0, .ref m), (1, .int q), (2, .int (nI E)), (4, .int (nI c))] [.int p] as (hset h m (mo tc r (upd z 24 w24))) := by
        intro w24 p hp
        refine q_istore_n dX9_seeds_61 rfl (by decide) ?_
        refine q_iincM dX9_seeds_62 rfl (by decide) ?_
        refine q_goto 28 dX9_seeds_65 (by decide) ?_
        exact ih (j + 1) _ _ _ _ (by omega) hp (m1p1 _) ⟨rfl, rfl, rfl, rfl, rfl, trivial⟩
      have hc : E - 1 - j = c := by omega
      obtain ⟨d, hd, hne, hFd⟩ := hF c (by omega)
      refine q_iload dX9_seeds_28 rfl ?_
      refine q_if_lt 68 dX9_seeds_30 (by decide) (fun z => absurd z (nI_pos (by omega))) (fun _ => ?_)
      refine q_iload dX9_seeds_33 rfl ?_
      refine q_callSd dX9_seeds_35 wX9_seeds_222 (n_bitsIn) rfl rfl (Nat.le_of_ble_eq_true rfl) ⟨⟨Nat.le_of_ble_eq_true rfl, Nat.le_of_ble_eq_true rfl⟩, Nat.le_of_ble_eq_true rfl, Nat.le_of_ble_eq_true rfl⟩ ?_
      refine q_iload_n dX9_seeds_38 rfl rfl ?_
      refine q_callSd dX9_seeds_39 wX9_seeds_222 (n_bitsIn) rfl rfl (Nat.le_of_ble_eq_true rfl) ⟨⟨Nat.le_of_ble_eq_true rfl, Nat.le_of_ble_eq_true rfl⟩, Nat.le_of_ble_eq_true rfl, Nat.le_of_ble_eq_true rfl⟩ ?_
      refine q_icmp_gt 60 dX9_seeds_42 (by decide) (fun cA => ?_) (fun cA => ?_)
      · refine q_iload_n dX9_seeds_60 rfl rfl ?_
        refine V.at (st _ _ ?_) ⟨rfl, rfl, rfl, rfl, trivial⟩
        simp only [sdS]
        rw [hc, if_neg]
        rintro ⟨q1, q2⟩
        first | exact cE q2 | exact absurd q1 (Int32.not_le.mpr cA)
      · refine q_aload_n dX9_seeds_45 rfl rfl ?_
        refine q_iload dX9_seeds_46 rfl ?_
        refine q_callVd dX9_seeds_48 wX9_seeds_225 (n_spread hn8 (xM _) hn (xo _) hd hne) (xM _) ⟨_, _, rfl⟩ rfl rfl (Nat.le_of_ble_eq_true rfl) ⟨⟨Nat.le_of_ble_eq_true rfl, Nat.le_of_ble_eq_true rfl⟩, Nat.le_of_ble_eq_true rfl, Nat.le_of_ble_eq_true rfl⟩ ?_
        refine V.hp (h' := hset h m (mo tc r (upd z 24 (nI d)))) ?_ (by rw [hset_hset, upd_upd])
        refine q_iload_n dX9_seeds_51 rfl rfl ?_
        rw [hFd]
        refine q_icmp_ne 60 dX9_seeds_52 (by decide) (fun cE => ?_) (fun cE => ?_)
        · refine q_iload_n dX9_seeds_60 rfl rfl ?_
          refine V.at (st _ _ ?_) ⟨rfl, rfl, rfl, rfl, trivial⟩
          simp only [sdS]
          rw [hc, if_neg]
          rintro ⟨q1, q2⟩
          first | exact cE q2 | exact absurd q1 (Int32.not_le.mpr cA)
        · refine q_iload dX9_seeds_55 rfl ?_
          refine q_goto 61 dX9_seeds_57 (by decide) ?_
          refine V.at (st _ _ ?_) ⟨rfl, rfl, rfl, rfl, trivial⟩
          simp only [sdS]
          rw [hc, if_pos ⟨Int32.not_lt.mp cA, cE⟩]
  refine Con.of (by decide +kernel) rfl rfl (Nat.le_of_ble_eq_true rfl) ?_
  refine q_iload_n dX9_seeds_0 rfl rfl ?_
  refine q_i2l dX9_seeds_1 ?_
  refine q_lconst (v := 0) dX9_seeds_2 rfl ?_
  refine q_lconst (v := 1) dX9_seeds_3 rfl ?_
  refine q_callSd dX9_seeds_4 wX9_seeds_60 (n_in) rfl rfl (Nat.le_of_ble_eq_true rfl) ⟨⟨Nat.le_of_ble_eq_true rfl, Nat.le_of_ble_eq_true rfl⟩, Nat.le_of_ble_eq_true rfl, Nat.le_of_ble_eq_true rfl⟩ ?_
  refine q_if_ne 12 dX9_seeds_7 (by decide) (fun _ => ?_) (fun z => absurd z (by rw [inB_UL, hq]; decide))
  refine q_iconst (v := 1) dX9_seeds_12 rfl ?_
  refine q_aload_n dX9_seeds_13 rfl rfl ?_
  refine q_get dX9_seeds_14 fX9_seeds_111 (hM) rfl ?_
  refine q_ishl dX9_seeds_17 ?_
  refine q_iconst (v := 1) dX9_seeds_18 rfl ?_
  refine q_isub dX9_seeds_19 ?_
  rw [hn, show (1 : Int32) <<< (nI n &&& 31) - 1 = nI E from hE]
  refine q_istore_n dX9_seeds_20 rfl (by decide) ?_
  refine q_iload_n dX9_seeds_21 rfl rfl ?_
  refine q_istore_n dX9_seeds_22 rfl (by decide) ?_
  refine q_iload_n dX9_seeds_23 rfl rfl ?_
  refine q_iconst (v := 1) dX9_seeds_24 rfl ?_
  refine q_isub dX9_seeds_25 ?_
  refine q_istore dX9_seeds_26 (by decide) ?_
  refine V.hp (h' := hset h m (mo tc r (upd z 24 (z 24)))) ?_ (hset_same (show h m = mo tc r (upd z 24 (z 24)) from hM.2)).symm
  exact key E 0 _ _ _ _ (by omega) rfl (by rw [Int32.sub_add_cancel]) ⟨rfl, rfl, rfl, rfl, rfl, trivial⟩
theorem n_shabby_bad {q : Int32} (hb : q < 0 ∨ 100 < q) : Det Γ l mX9_shabby rX9_shabby [.ref m, .int q] as h (some (.int (-1))) h := by
  refine Con.of (by decide +kernel) rfl rfl (Nat.le_of_ble_eq_true rfl) ?_
  refine q_iload_n dX9_shabby_0 rfl rfl ?_
  refine q_i2l dX9_shabby_1 ?_
  refine q_lconst (v := 0) dX9_shabby_2 rfl ?_
  refine q_ldc2 (v := 100) dX9_shabby_3 (by decide +kernel) ?_
  refine q_callSd dX9_shabby_6 wX9_shabby_60 (n_in) rfl rfl (Nat.le_of_ble_eq_true rfl) ⟨⟨Nat.le_of_ble_eq_true rfl, Nat.le_of_ble_eq_true rfl⟩, Nat.le_of_ble_eq_true rfl, Nat.le_of_ble_eq_true rfl⟩ ?_
  refine q_if_ne 14 dX9_shabby_9 (by decide) (fun z => absurd (by rw [inB_no (a := 0) (b := 100) (by decide) (by decide) hb]; decide) z) (fun _ => ?_)
  refine q_iconst (v := (-1)) dX9_shabby_12 rfl ?_
  exact q_iret dX9_shabby_13 rfl (Nat.zero_le _) (Nat.zero_le _) (⟨rfl, rfl, rfl⟩)
theorem n_shabby_none {q : Int32} (hq0 : ¬ q < 0) (hq : q ≤ 100) (hall : pAll f = 0) (hM : hat as h m (mo tc r z)) (hn : z 3 = nI n) (hn8 : n ≤ 8) (hf : hat as h (r 13) (aI Γ 240 f)) (hz : zro n f) : Det Γ l mX9_shabby rX9_shabby [.ref m, .int q] as h (some (.int (-9))) h := by
  have hin : inB q.toInt64 0 100 = true := by
    rw [inB_i (lo := 0) (hi := 100) (a := 0) (b := 100) (by decide) (by decide), Bool.and_eq_true]
    exact ⟨decide_eq_true (Int32.not_lt.mp hq0), decide_eq_true hq⟩
  refine Con.of (by decide +kernel) rfl rfl (Nat.le_of_ble_eq_true rfl) ?_
  refine q_iload_n dX9_shabby_0 rfl rfl ?_
  refine q_i2l dX9_shabby_1 ?_
  refine q_lconst (v := 0) dX9_shabby_2 rfl ?_
  refine q_ldc2 (v := 100) dX9_shabby_3 (by decide +kernel) ?_
  refine q_callSd dX9_shabby_6 wX9_shabby_60 (n_in) rfl rfl (Nat.le_of_ble_eq_true rfl) ⟨⟨Nat.le_of_ble_eq_true rfl, Nat.le_of_ble_eq_true rfl⟩, Nat.le_of_ble_eq_true rfl, Nat.le_of_ble_eq_true rfl⟩ ?_
  refine q_if_ne 14 dX9_shabby_9 (by decide) (fun _ => ?_) (fun z => absurd z (by rw [hin]; decide))
  refine q_aload_n dX9_shabby_14 rfl rfl ?_
  refine q_callVd dX9_shabby_15 wX9_shabby_164 (n_allCoins hM hn hn8 hf hz) (hM) ⟨_, _, rfl⟩ rfl rfl (Nat.le_of_ble_eq_true rfl) ⟨⟨Nat.le_of_ble_eq_true rfl, Nat.le_of_ble_eq_true rfl⟩, Nat.le_of_ble_eq_true rfl, Nat.le_of_ble_eq_true rfl⟩ ?_
  refine q_if_ne 24 dX9_shabby_18 (by decide) (fun z => absurd (hall) z) (fun _ => ?_)
  refine q_bipush (v := (-9)) dX9_shabby_21 rfl ?_
  exact q_iret dX9_shabby_23 rfl (Nat.zero_le _) (Nat.zero_le _) (⟨rfl, rfl, rfl⟩)
theorem fillF_back {f g : Nat → Int32} (hg : ∀ j, 80 ≤ j → g j = f j) : fillF f g 80 = f := by
  funext j
  unfold fillF
  by_cases hj : j < 80
  · rw [if_pos hj]
  · rw [if_neg hj, hg j (by omega)]
theorem wearA_hi {f : Nat → Int32} {j : Nat} (hj : 80 ≤ j) : wearA f j = f j := wr_out (by omega)
theorem zro_wear {f : Nat → Int32} (hz : zro n f) : zro n (wearA f) := by
  intro p hp hp8 w hw
  rw [wearA_at (by omega)]
  unfold wearF
  by_cases h9 : (p * 10 + w) % 10 = 9
  · have hw9 : w = 9 := by omega
    subst hw9
    rw [if_pos h9, show p * 10 + 9 - 1 = p * 10 + 8 by omega, hz p hp hp8 9 (by omega), hz p hp hp8 8 (by omega)]
    rfl
  · rw [if_neg h9]
    by_cases h0 : (p * 10 + w) % 10 = 0
    · rw [if_pos h0]
    · rw [if_neg h0, show p * 10 + w - 1 = p * 10 + (w - 1) by omega]
      exact hz p hp hp8 (w - 1) (by omega)
theorem n_shabby {q : Int32} {yy wr : Nat} {g0 : Nat → Int32} (hq0 : ¬ q < 0) (hq : q ≤ 100) (hall : ¬ pAll f = 0) (hyy : yy ≤ 1000) (hw0 : 0 < wr) (hw1 : wr ≤ 99) (hwr : u 5 = nI wr) (hM : hat as h m (mo tc r z)) (hn : z 3 = nI n) (hn8 : n ≤ 8) (hf : hat as h (r 13) (aI Γ 240 f)) (hz : zro n f) (hu : hat as h (r 17) (aI Γ 6 u)) (hy : hat as h (r 15) (aI Γ 3 ya)) (hy0 : ya 0 = nI yy) (ha : hat as h (r 22) (aI Γ 80 g0)) : Det Γ l mX9_shabby rX9_shabby [.ref m, .int q] as h (some (.int (shN q yy wr 1001 0 f))) (hset h (r 22) (aI Γ 80 (fillF f g0 80))) := by
  have hin : inB q.toInt64 0 100 = true := by
    rw [inB_i (lo := 0) (hi := 100) (a := 0) (b := 100) (by decide) (by decide), Bool.and_eq_true]
    exact ⟨decide_eq_true (Int32.not_lt.mp hq0), decide_eq_true hq⟩
  have d1 := hat_oa hM ha
  have d2 := hat_oa hM hf
  have d3 := hat_nl hf ha (by decide)
  have d4 := hat_nl hu ha (by decide)
  have d5 := hat_nl hu hf (by decide)
  have d6 := hat_nl hy ha (by decide)
  have d7 := hat_nl hy hf (by decide)
  have a1 : ∀ e : va_E, hat as (hset h (r 22) e) m (mo tc r z) := fun e => hat_ne hM d1
  have a2 : ∀ e : va_E, hat as (hset h (r 22) e) (r 13) (aI Γ 240 f) := fun e => hat_ne hf d3
  have fill : ∀ (c i : Nat) (v2 : Int32) (ls : List (Nat × Value)) (h' : aH), i + c = 80 → v2 = nI i → h' = hset h (r 22) (aI Γ 80 (fillF f g0 i)) → lin ls [(0, .ref m), (1, .int q), (2, .int v2)] → (∀ v : Int32, V Γ l mX9_shabby rX9_shabby (Zm Γ rX9_shabby (qD (some (.int (shN q yy wr 1001 0 f))) as (hset h (r 22) (aI Γ 80 (fillF f g0 80))))) 0 0 50 [(0, .ref m), (1, .int q), (2, .int v)] [] as (hset h (r 22) (aI Γ 80 (fillF f g0 80)))) → V Γ l mX9_shabby rX9_shabby (Zm Γ rX9_shabby (qD (some (.int (shN q yy wr 1001 0 f))) as (hset h (r 22) (aI Γ 80 (fillF f g0 80))))) 0 0 26 ls [] as h' := by
    intro c
    induction c with
    | zero =>
      intro i v2 ls h' hi hv2 hh hl K
      have hi2 : i = 80 := by omega
      subst hi2 hv2 hh
      refine V.at ?_ hl
      refine q_iload_n dX9_shabby_26 rfl rfl ?_
      refine q_bipush (v := 80) dX9_shabby_27 rfl ?_
      refine q_icmp_ge 50 dX9_shabby_29 (by decide) (fun _ => ?_) (fun z => absurd (ge_c 80 rfl (by omega) (by omega)) z)
      exact K _
    | succ c ih =>
      intro i v2 ls h' hi hv2 hh hl K
      subst hv2 hh
      refine V.at ?_ hl
      refine q_iload_n dX9_shabby_26 rfl rfl ?_
      refine q_bipush (v := 80) dX9_shabby_27 rfl ?_
      refine q_icmp_ge 50 dX9_shabby_29 (by decide) (fun z => absurd z (lt_c 80 rfl (by omega) (by omega))) (fun _ => ?_)
      refine q_aload_n dX9_shabby_32 rfl rfl ?_
      refine q_get dX9_shabby_33 fX9_shabby_52 (a1 _) rfl ?_
      refine q_iload_n dX9_shabby_36 rfl rfl ?_
      refine q_aload_n dX9_shabby_37 rfl rfl ?_
      refine q_get dX9_shabby_38 fX9_shabby_26 (a1 _) rfl ?_
      refine q_iload_n dX9_shabby_41 rfl rfl ?_
      refine q_iald dX9_shabby_42 (a2 _) (in_nI (show i < 240 by omega) (by omega)) ?_
      refine q_iast dX9_shabby_43 (hat_set ha) (in_nI (show i < 80 by omega) (by omega)) ?_
      refine q_iinc1 dX9_shabby_44 rfl (by decide) ?_
      refine q_goto 26 dX9_shabby_47 (by decide) ?_
      exact ih (i + 1) _ _ _ (by omega) (nI_s i) (by rw [hset_hset, nI_clamp (by omega), fillF_s]) ⟨rfl, rfl, rfl, trivial⟩ K
  generalize hh1 : hset h (r 22) (aI Γ 80 (fillF f g0 80)) = h1 at fill ⊢
  have b1 : ∀ g : Nat → Int32, hat as (hset h1 (r 13) (aI Γ 240 g)) m (mo tc r z) := fun g => hat_ne (hh1 ▸ a1 _) d2
  have b2 : hat as h1 (r 13) (aI Γ 240 f) := hh1 ▸ a2 _
  have b3 : ∀ g : Nat → Int32, hat as (hset h1 (r 13) (aI Γ 240 g)) (r 13) (aI Γ 240 g) := fun g => hat_set b2
  have b4 : ∀ g : Nat → Int32, hat as (hset h1 (r 13) (aI Γ 240 g)) (r 17) (aI Γ 6 u) := fun g => hat_ne (hh1 ▸ hat_ne hu d4) d5
  have b5 : ∀ g : Nat → Int32, hat as (hset h1 (r 13) (aI Γ 240 g)) (r 15) (aI Γ 3 ya) := fun g => hat_ne (hh1 ▸ hat_ne hy d6) d7
  have b6 : ∀ g : Nat → Int32, hat as (hset h1 (r 13) (aI Γ 240 g)) (r 22) (aI Γ 80 (fillF f g0 80)) := fun g => hat_ne (hh1 ▸ hat_set ha) d3.symm
  have rest : ∀ (r0 : Int32) (g : Nat → Int32) (hg : ∀ j, 80 ≤ j → g j = f j) (c i : Nat) (v3 : Int32) (ls : List (Nat × Value)) (h' : aH), i + c = 80 → v3 = nI i → h' = hset h1 (r 13) (aI Γ 240 (fillF f g i)) → lin ls [(0, .ref m), (2, .int r0), (3, .int v3)] → V Γ l mX9_shabby rX9_shabby (Zm Γ rX9_shabby (qD (some (.int r0)) as h1)) 0 0 126 ls [] as h' := by
    intro r0 g hg c
    induction c with
    | zero =>
      intro i v3 ls h' hi hv3 hh hl
      have hi2 : i = 80 := by omega
      subst hi2 hv3 hh
      refine V.at ?_ hl
      refine q_iload_n dX9_shabby_126 rfl rfl ?_
      refine q_bipush (v := 80) dX9_shabby_127 rfl ?_
      refine q_icmp_ge 150 dX9_shabby_129 (by decide) (fun _ => ?_) (fun z => absurd (ge_c 80 rfl (by omega) (by omega)) z)
      refine q_iload_n dX9_shabby_150 rfl rfl ?_
      exact q_iret dX9_shabby_151 rfl (Nat.zero_le _) (Nat.zero_le _) (⟨rfl, rfl, by rw [fillF_back hg, hset_same b2.2]⟩)
    | succ c ih =>
      intro i v3 ls h' hi hv3 hh hl
      subst hv3 hh
      refine V.at ?_ hl
      refine q_iload_n dX9_shabby_126 rfl rfl ?_
      refine q_bipush (v := 80) dX9_shabby_127 rfl ?_
      refine q_icmp_ge 150 dX9_shabby_129 (by decide) (fun z => absurd z (lt_c 80 rfl (by omega) (by omega))) (fun _ => ?_)
      refine q_aload_n dX9_shabby_132 rfl rfl ?_
      refine q_get dX9_shabby_133 fX9_shabby_26 (b1 _) rfl ?_
      refine q_iload_n dX9_shabby_136 rfl rfl ?_
      refine q_aload_n dX9_shabby_137 rfl rfl ?_
      refine q_get dX9_shabby_138 fX9_shabby_52 (b1 _) rfl ?_
      refine q_iload_n dX9_shabby_141 rfl rfl ?_
      refine q_iald dX9_shabby_142 (b6 _) (in_nI (show i < 80 by omega) (by omega)) ?_
      refine q_iast dX9_shabby_143 (b3 _) (in_nI (show i < 240 by omega) (by omega)) ?_
      refine q_iinc1 dX9_shabby_144 rfl (by decide) ?_
      refine q_goto 126 dX9_shabby_147 (by decide) ?_
      exact ih (i + 1) _ _ _ (by omega) (nI_s i) (by rw [hset_hset, nI_clamp (by omega), show fillF f g0 80 i = f i from if_pos (by omega), fillF_s]) ⟨rfl, rfl, rfl, trivial⟩
  have rest0 : ∀ (r0 : Int32) (g : Nat → Int32) (hg : ∀ j, 80 ≤ j → g j = f j) (ls : List (Nat × Value)), lin ls [(0, .ref m), (2, .int r0)] → V Γ l mX9_shabby rX9_shabby (Zm Γ rX9_shabby (qD (some (.int r0)) as h1)) 0 0 124 ls [] as (hset h1 (r 13) (aI Γ 240 g)) := by
    intro r0 g hg ls hl
    refine V.at ?_ hl
    refine q_iconst (v := 0) dX9_shabby_124 rfl ?_
    refine q_istore_n dX9_shabby_125 rfl (by decide) ?_
    exact rest r0 g hg 80 0 _ _ _ (by omega) rfl (by rw [fillF_0]) ⟨rfl, rfl, rfl, trivial⟩
  have tail : ∀ (R0 : Int32) (d y : Nat) (g : Nat → Int32), y + d = 1000 → (∀ j, 80 ≤ j → g j = f j) → zro n g → (¬ 10 * pGr g ≤ q * pAll g → ∀ (v3 : Int32) (ls : List (Nat × Value)), v3 = nI (y + 1) → lin ls [(0, .ref m), (1, .int q), (2, .int (-9)), (3, .int v3)] → V Γ l mX9_shabby rX9_shabby (Zm Γ rX9_shabby (qD (some (.int R0)) as h1)) 0 0 55 ls [] as (hset h1 (r 13) (aI Γ 240 g))) → (10 * pGr g ≤ q * pAll g → R0 = nI y) → ∀ ls : List (Nat × Value), lin ls [(0, .ref m), (1, .int q), (3, .int (nI y))] → V Γ l mX9_shabby rX9_shabby (Zm Γ rX9_shabby (qD (some (.int R0)) as h1)) 0 0 95 ls [] as (hset h1 (r 13) (aI Γ 240 g)) := by
    intro R0 d y g hy1 hg hzg K hR ls hl
    refine V.at ?_ hl
    have st : ∀ p : Int32, R0 = nI y → p = nI y → V Γ l mX9_shabby rX9_shabby (Zm Γ rX9_shabby (qD (some (.int R0)) as h1)) 0 0 117 [(0, .ref m), (1, .int q), (3, .int (nI y))] [.int p] as (hset h1 (r 13) (aI Γ 240 g)) := by
      intro p e1 e2
      subst e1 e2
      refine q_istore_n dX9_shabby_117 rfl (by decide) ?_
      refine q_iinc1 dX9_shabby_118 rfl (by decide) ?_
      refine q_goto 55 dX9_shabby_121 (by decide) ?_
      refine q_iload_n dX9_shabby_55 rfl rfl ?_
      refine q_sipush (v := 1000) dX9_shabby_56 rfl ?_
      refine q_icmp_gt 124 dX9_shabby_59 (by decide) (fun cA => ?_) (fun cA => ?_)
      · exact rest0 _ _ hg _ ⟨rfl, rfl, trivial⟩
      · refine q_iload_n dX9_shabby_62 rfl rfl ?_
        refine q_bipush (v := (-9)) dX9_shabby_63 rfl ?_
        refine q_icmp_ne 124 dX9_shabby_65 (by decide) (fun _ => ?_) (fun z => absurd z (fun e => nI_pos (n := y) (by omega) (by rw [e]; decide)))
        exact rest0 _ _ hg _ ⟨rfl, rfl, trivial⟩
    refine q_bipush (v := 10) dX9_shabby_95 rfl ?_
    refine q_aload_n dX9_shabby_97 rfl rfl ?_
    refine q_callVd dX9_shabby_98 wX9_shabby_205 (n_there (b1 _) hn hn8 (b3 _) hzg) (b1 _) ⟨_, _, rfl⟩ rfl rfl (Nat.le_of_ble_eq_true rfl) ⟨⟨Nat.le_of_ble_eq_true rfl, Nat.le_of_ble_eq_true rfl⟩, Nat.le_of_ble_eq_true rfl, Nat.le_of_ble_eq_true rfl⟩ ?_
    refine q_imul dX9_shabby_101 ?_
    refine q_iload_n dX9_shabby_102 rfl rfl ?_
    refine q_aload_n dX9_shabby_103 rfl rfl ?_
    refine q_callVd dX9_shabby_104 wX9_shabby_164 (n_allCoins (b1 _) hn hn8 (b3 _) hzg) (b1 _) ⟨_, _, rfl⟩ rfl rfl (Nat.le_of_ble_eq_true rfl) ⟨⟨Nat.le_of_ble_eq_true rfl, Nat.le_of_ble_eq_true rfl⟩, Nat.le_of_ble_eq_true rfl, Nat.le_of_ble_eq_true rfl⟩ ?_
    refine q_imul dX9_shabby_107 ?_
    refine q_icmp_gt 115 dX9_shabby_108 (by decide) (fun cA => ?_) (fun cA => ?_)
    · refine q_bipush (v := (-9)) dX9_shabby_115 rfl ?_
      refine q_istore_n dX9_shabby_117 rfl (by decide) ?_
      refine q_iinc1 dX9_shabby_118 rfl (by decide) ?_
      refine q_goto 55 dX9_shabby_121 (by decide) ?_
      exact K (Int32.not_le.mpr cA) _ _ (nI_s y) ⟨rfl, rfl, rfl, rfl, trivial⟩
    · refine q_iload_n dX9_shabby_111 rfl rfl ?_
      refine q_goto 117 dX9_shabby_112 (by decide) ?_
      exact V.at (st _ (hR (Int32.not_lt.mp cA)) rfl) ⟨rfl, rfl, rfl, trivial⟩
  have key : ∀ (d y : Nat) (g : Nat → Int32) (v3 : Int32) (ls : List (Nat × Value)), y + d = 1001 → (∀ j, 80 ≤ j → g j = f j) → zro n g → v3 = nI y → lin ls [(0, .ref m), (1, .int q), (2, .int (-9)), (3, .int v3)] → V Γ l mX9_shabby rX9_shabby (Zm Γ rX9_shabby (qD (some (.int (shN q yy wr d y g))) as h1)) 0 0 55 ls [] as (hset h1 (r 13) (aI Γ 240 g)) := by
    intro d
    induction d with
    | zero =>
      intro y g v3 ls hyd hg hzg hv3 hl
      subst hv3
      refine V.at ?_ hl
      refine q_iload_n dX9_shabby_55 rfl rfl ?_
      refine q_sipush (v := 1000) dX9_shabby_56 rfl ?_
      refine q_icmp_gt 124 dX9_shabby_59 (by decide) (fun _ => ?_) (fun z => absurd (nI_lt (a := 1000) (by omega) (by omega)) z)
      exact rest0 _ _ hg _ ⟨rfl, rfl, trivial⟩
    | succ d ih =>
      intro y g v3 ls hyd hg hzg hv3 hl
      subst hv3
      refine V.at ?_ hl
      generalize hR0 : shN q yy wr (d + 1) y g = R0
      have dry : ¬ (0 < y ∧ (yy + y) % wr = 0) → ∀ ls : List (Nat × Value), lin ls [(0, .ref m), (1, .int q), (3, .int (nI y))] → V Γ l mX9_shabby rX9_shabby (Zm Γ rX9_shabby (qD (some (.int R0)) as h1)) 0 0 95 ls [] as (hset h1 (r 13) (aI Γ 240 g)) := by
        intro hc
        simp only [shN] at hR0
        rw [if_neg hc] at hR0
        refine tail R0 d y g (by omega) hg hzg (fun hx v3 ls hv hl => ?_) (fun hx => by rw [← hR0, if_pos hx])
        rw [← hR0, if_neg hx]
        exact ih (y + 1) g v3 ls (by omega) hg hzg hv hl
      refine q_iload_n dX9_shabby_55 rfl rfl ?_
      refine q_sipush (v := 1000) dX9_shabby_56 rfl ?_
      refine q_icmp_gt 124 dX9_shabby_59 (by decide) (fun z => absurd z (nI_nlt (a := 1000) (b := y) (by omega) (by omega))) (fun _ => ?_)
      refine q_iload_n dX9_shabby_62 rfl rfl ?_
      refine q_bipush (v := (-9)) dX9_shabby_63 rfl ?_
      refine q_icmp_ne 124 dX9_shabby_65 (by decide) (fun z => absurd (rfl) z) (fun _ => ?_)
      refine q_iload_n dX9_shabby_68 rfl rfl ?_
      refine q_if_le 95 dX9_shabby_69 (by decide) (fun cA => ?_) (fun cA => ?_)
      · first | exact dry (fun q => nI_ne0 q.1 (by omega) (Int32.le_antisymm cA (nI_pos' (by omega)))) _ ⟨rfl, rfl, rfl, trivial⟩ | exact dry (fun q => cE (by rw [q.2]; rfl)) _ ⟨rfl, rfl, rfl, trivial⟩
      · refine q_aload_n dX9_shabby_72 rfl rfl ?_
        refine q_get dX9_shabby_73 fX9_shabby_32 (b1 _) rfl ?_
        refine q_iconst (v := 0) dX9_shabby_76 rfl ?_
        refine q_iald dX9_shabby_77 (b5 _) (in_nI (k := 0) (by omega) (by omega)) ?_
        refine q_iload_n dX9_shabby_78 rfl rfl ?_
        refine q_iadd dX9_shabby_79 ?_
        refine q_aload_n dX9_shabby_80 rfl rfl ?_
        refine q_get dX9_shabby_81 fX9_shabby_39 (b1 _) rfl ?_
        refine q_iconst (v := 5) dX9_shabby_84 rfl ?_
        refine q_iald dX9_shabby_85 (b4 _) (in_nI (k := 5) (by omega) (by omega)) ?_
        rw [show u (5 : Int32).toNatClampNeg = nI wr from hwr, show ya (0 : Int32).toNatClampNeg = nI yy from hy0, nI_add]
        refine q_irem dX9_shabby_86 (nI_ne0 hw0 (by omega)) ?_
        rw [pk_rem (by omega) hw0 (by omega)]
        refine q_if_ne 95 dX9_shabby_87 (by decide) (fun cE => ?_) (fun cE => ?_)
        · first | exact dry (fun q => nI_ne0 q.1 (by omega) (Int32.le_antisymm cA (nI_pos' (by omega)))) _ ⟨rfl, rfl, rfl, trivial⟩ | exact dry (fun q => cE (by rw [q.2]; rfl)) _ ⟨rfl, rfl, rfl, trivial⟩
        · skip
          have hy0' : 0 < y := Nat.pos_of_ne_zero (fun e => cA (by rw [e]; decide))
          have hm0 : (yy + y) % wr = 0 := (nI_eq (Nat.lt_of_lt_of_le (Nat.mod_lt _ hw0) (by omega)) (by omega)).mp cE
          have hcc : 0 < y ∧ (yy + y) % wr = 0 := ⟨hy0', hm0⟩
          simp only [shN] at hR0
          rw [if_pos hcc] at hR0
          refine q_aload_n dX9_shabby_90 rfl rfl ?_
          refine q_iconst (v := 0) dX9_shabby_91 rfl ?_
          refine q_callVd dX9_shabby_92 wX9_shabby_201 (n_wear (b1 _) (b3 _)) (b1 _) ⟨_, _, rfl⟩ rfl rfl (Nat.le_of_ble_eq_true rfl) ⟨⟨Nat.le_of_ble_eq_true rfl, Nat.le_of_ble_eq_true rfl⟩, Nat.le_of_ble_eq_true rfl, Nat.le_of_ble_eq_true rfl⟩ ?_
          refine V.hp (h' := hset h1 (r 13) (aI Γ 240 (wearA g))) ?_ (by rw [hset_hset])
          have hg' : ∀ j, 80 ≤ j → wearA g j = f j := fun j hj => (wearA_hi hj).trans (hg j hj)
          refine tail R0 d y (wearA g) (by omega) hg' (zro_wear hzg) (fun hx v3 ls hv hl => ?_) (fun hx => by rw [← hR0, if_pos hx]) _ ⟨rfl, rfl, rfl, trivial⟩
          rw [← hR0, if_neg hx]
          exact ih (y + 1) (wearA g) v3 ls (by omega) hg' (zro_wear hzg) hv hl
  refine Con.of (by decide +kernel) rfl rfl (Nat.le_of_ble_eq_true rfl) ?_
  refine q_iload_n dX9_shabby_0 rfl rfl ?_
  refine q_i2l dX9_shabby_1 ?_
  refine q_lconst (v := 0) dX9_shabby_2 rfl ?_
  refine q_ldc2 (v := 100) dX9_shabby_3 (by decide +kernel) ?_
  refine q_callSd dX9_shabby_6 wX9_shabby_60 (n_in) rfl rfl (Nat.le_of_ble_eq_true rfl) ⟨⟨Nat.le_of_ble_eq_true rfl, Nat.le_of_ble_eq_true rfl⟩, Nat.le_of_ble_eq_true rfl, Nat.le_of_ble_eq_true rfl⟩ ?_
  refine q_if_ne 14 dX9_shabby_9 (by decide) (fun _ => ?_) (fun z => absurd z (by rw [hin]; decide))
  refine q_aload_n dX9_shabby_14 rfl rfl ?_
  refine q_callVd dX9_shabby_15 wX9_shabby_164 (n_allCoins hM hn hn8 hf hz) (hM) ⟨_, _, rfl⟩ rfl rfl (Nat.le_of_ble_eq_true rfl) ⟨⟨Nat.le_of_ble_eq_true rfl, Nat.le_of_ble_eq_true rfl⟩, Nat.le_of_ble_eq_true rfl, Nat.le_of_ble_eq_true rfl⟩ ?_
  refine q_if_ne 24 dX9_shabby_18 (by decide) (fun _ => ?_) (fun z => absurd z (hall))
  refine q_iconst (v := 0) dX9_shabby_24 rfl ?_
  refine q_istore_n dX9_shabby_25 rfl (by decide) ?_
  refine fill 80 0 _ _ _ (by omega) rfl (by rw [fillF_0, hset_same ha.2]) ⟨rfl, rfl, rfl, trivial⟩ (fun v => ?_)
  refine q_bipush (v := (-9)) dX9_shabby_50 rfl ?_
  refine q_istore_n dX9_shabby_52 rfl (by decide) ?_
  refine q_iconst (v := 0) dX9_shabby_53 rfl ?_
  refine q_istore_n dX9_shabby_54 rfl (by decide) ?_
  refine V.hp (h' := hset h1 (r 13) (aI Γ 240 f)) ?_ (hset_same b2.2).symm
  exact key 1001 0 f _ _ (by omega) (fun _ _ => rfl) hz rfl ⟨rfl, rfl, rfl, rfl, trivial⟩
end

