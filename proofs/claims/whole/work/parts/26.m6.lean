/-! THE REFERENCE (X9): days -/
def isD (p q : Int32) : Bool := (decide (1 ≤ p) && decide (p ≤ 30)) && (decide (0 ≤ q) && decide (q ≤ p))
theorem inB_UL {b : Int32} : inB b.toInt64 0 1 = isUL b := by
  rw [inB_i (a := 0) (b := 1) (by decide) (by decide)]
  unfold isUL
  rw [← Bool.decide_and, ← Bool.decide_or]
  refine decide_eq_decide.mpr ⟨fun e => ?_, fun e => ?_⟩
  · obtain ⟨j, hj, rfl⟩ := nI_of2 (x := b) (M := 1) (n := 1) (by decide) (Int32.not_lt.mpr e.1) e.2
    rcases (show j = 0 ∨ j = 1 by omega) with rfl | rfl
    · exact Or.inl rfl
    · exact Or.inr rfl
  · rcases e with rfl | rfl <;> decide
theorem isD_iff {p q : Int32} : isD p q = true ↔ ¬ (p < 1 ∨ 30 < p ∨ q < 0 ∨ p < q) := by
  unfold isD
  rw [Bool.and_eq_true, Bool.and_eq_true, Bool.and_eq_true, decide_eq_true_eq, decide_eq_true_eq, decide_eq_true_eq, decide_eq_true_eq]
  refine ⟨?_, fun h => ⟨⟨Int32.not_lt.mp (fun e => h (Or.inl e)), Int32.not_lt.mp (fun e => h (Or.inr (Or.inl e)))⟩, Int32.not_lt.mp (fun e => h (Or.inr (Or.inr (Or.inl e)))), Int32.not_lt.mp (fun e => h (Or.inr (Or.inr (Or.inr e))))⟩⟩
  rintro ⟨⟨h1, h2⟩, h3, h4⟩ h
  rcases h with e | e | e | e
  · exact absurd h1 (Int32.not_le.mpr e)
  · exact absurd h2 (Int32.not_le.mpr e)
  · exact absurd h3 (Int32.not_le.mpr e)
  · exact absurd h4 (Int32.not_le.mpr e)
theorem dyR_D {all p q : Int32} : dyR all p q = if isD p q then (if p ≤ all then 0 else -2) else -1 := by
  unfold dyR
  by_cases h : isD p q = true
  · rw [if_pos h, if_neg (isD_iff.mp h)]
  · rw [if_neg h]
    exact if_pos (Classical.byContradiction (fun e => h (isD_iff.mpr e)))
theorem isD_0 {p : Int32} : isD p 0 = (decide (1 ≤ p) && decide (p ≤ 30)) := by
  unfold isD
  by_cases h : 1 ≤ p
  · rw [decide_eq_true (p := (0 : Int32) ≤ 0) (by decide), decide_eq_true (p := 0 ≤ p) (Int32.le_trans (by decide) h), Bool.and_true, Bool.and_true]
  · rw [decide_eq_false h, Bool.false_and, Bool.false_and]
theorem isD_nI {n k : Nat} (h1 : 1 ≤ n) (h2 : n ≤ 30) (h3 : k ≤ n) : isD (nI n) (nI k) = true := by
  unfold isD
  rw [Bool.and_eq_true, Bool.and_eq_true, Bool.and_eq_true, decide_eq_true_eq, decide_eq_true_eq, decide_eq_true_eq, decide_eq_true_eq]
  exact ⟨⟨nI_le (a := 1) h1 (by omega), nI_le (b := 30) h2 (by omega)⟩, nI_pos' (by omega), nI_le h3 (by omega)⟩
section
variable {Γ : gT} {l : Launch} {as : List Nat} {h : aH} {m : Nat} {tc : Int64} {r : Nat → Nat} {z : Nat → Int32} {n t k : Nat} {f u : Nat → Int32} {W : Nat → Nat}
theorem n_isDay {p q : Int32} (hM : hat as h m (mo tc r z)) : Det Γ l mX9_isDay rX9_isDay [.ref m, .int p, .int q] as h (some (.int (bI (isD p q)))) h := by
  refine Con.of (by decide +kernel) rfl rfl (Nat.le_of_ble_eq_true rfl) ?_
  refine q_iload_n dX9_isDay_0 rfl rfl ?_
  refine q_i2l dX9_isDay_1 ?_
  refine q_lconst (v := 1) dX9_isDay_2 rfl ?_
  refine q_ldc2 (v := 30) dX9_isDay_3 (by decide +kernel) ?_
  refine q_callSd dX9_isDay_6 wX9_isDay_60 (n_in) rfl rfl (Nat.le_of_ble_eq_true rfl) ⟨⟨Nat.le_of_ble_eq_true rfl, Nat.le_of_ble_eq_true rfl⟩, Nat.le_of_ble_eq_true rfl, Nat.le_of_ble_eq_true rfl⟩ ?_
  rw [inB_i (a := 1) (b := 30) (by decide) (by decide)]
  refine q_if_eq 27 dX9_isDay_9 (by decide) (fun cA => ?_) (fun cA => ?_)
  · rw [show isD p q = false by unfold isD; first | rw [bI_0.mp cB, Bool.and_false] | rw [bI_0.mp cA, Bool.false_and]]
    refine q_iconst (v := 0) dX9_isDay_27 rfl ?_
    exact q_zret dX9_isDay_28 rfl (rfl) (Nat.zero_le _) (Nat.zero_le _) (⟨rfl, rfl, rfl⟩)
  · refine q_iload_n dX9_isDay_12 rfl rfl ?_
    refine q_i2l dX9_isDay_13 ?_
    refine q_lconst (v := 0) dX9_isDay_14 rfl ?_
    refine q_iload_n dX9_isDay_15 rfl rfl ?_
    refine q_i2l dX9_isDay_16 ?_
    refine q_callSd dX9_isDay_17 wX9_isDay_60 (n_in) rfl rfl (Nat.le_of_ble_eq_true rfl) ⟨⟨Nat.le_of_ble_eq_true rfl, Nat.le_of_ble_eq_true rfl⟩, Nat.le_of_ble_eq_true rfl, Nat.le_of_ble_eq_true rfl⟩ ?_
    rw [inB_i (a := 0) (b := p) (by decide) rfl]
    refine q_if_eq 27 dX9_isDay_20 (by decide) (fun cB => ?_) (fun cB => ?_)
    · rw [show isD p q = false by unfold isD; first | rw [bI_0.mp cB, Bool.and_false] | rw [bI_0.mp cA, Bool.false_and]]
      refine q_iconst (v := 0) dX9_isDay_27 rfl ?_
      exact q_zret dX9_isDay_28 rfl (rfl) (Nat.zero_le _) (Nat.zero_le _) (⟨rfl, rfl, rfl⟩)
    · rw [show isD p q = true by unfold isD; rw [bI_n.mp cA, bI_n.mp cB]; rfl]
      refine q_iconst (v := 1) dX9_isDay_23 rfl ?_
      refine q_goto 28 dX9_isDay_24 (by decide) ?_
      exact q_zret dX9_isDay_28 rfl (rfl) (Nat.zero_le _) (Nat.zero_le _) (⟨rfl, rfl, rfl⟩)
theorem n_goes_no {p q : Int32} (hr : ¬ dyR (pAll f) p q = 0) (hM : hat as h m (mo tc r z)) (hn : z 3 = nI n) (hn8 : n ≤ 8) (hf : hat as h (r 13) (aI Γ 240 f)) (hz : zro n f) : Det Γ l mX9_goes rX9_goes [.ref m, .int p, .int q] as h (some (.int (dyR (pAll f) p q))) h := by
  rw [dyR_D] at hr ⊢
  refine Con.of (by decide +kernel) rfl rfl (Nat.le_of_ble_eq_true rfl) ?_
  refine q_aload_n dX9_goes_0 rfl rfl ?_
  refine q_iload_n dX9_goes_1 rfl rfl ?_
  refine q_iload_n dX9_goes_2 rfl rfl ?_
  refine q_callVd dX9_goes_3 wX9_goes_160 (n_isDay hM) (hM) ⟨_, _, rfl⟩ rfl rfl (Nat.le_of_ble_eq_true rfl) ⟨⟨Nat.le_of_ble_eq_true rfl, Nat.le_of_ble_eq_true rfl⟩, Nat.le_of_ble_eq_true rfl, Nat.le_of_ble_eq_true rfl⟩ ?_
  refine q_if_ne 11 dX9_goes_6 (by decide) (fun cA => ?_) (fun cA => ?_)
  · refine q_iload_n dX9_goes_11 rfl rfl ?_
    refine q_aload_n dX9_goes_12 rfl rfl ?_
    refine q_callVd dX9_goes_13 wX9_goes_164 (n_allCoins hM hn hn8 hf hz) (hM) ⟨_, _, rfl⟩ rfl rfl (Nat.le_of_ble_eq_true rfl) ⟨⟨Nat.le_of_ble_eq_true rfl, Nat.le_of_ble_eq_true rfl⟩, Nat.le_of_ble_eq_true rfl, Nat.le_of_ble_eq_true rfl⟩ ?_
    refine q_icmp_le 24 dX9_goes_16 (by decide) (fun cB => ?_) (fun cB => ?_)
    · exact absurd (by rw [if_pos (bI_n.mp cA), if_pos cB]) hr
    · refine q_bipush (v := (-2)) dX9_goes_19 rfl ?_
      refine q_goto 30 dX9_goes_21 (by decide) ?_
      exact q_iret dX9_goes_30 rfl (Nat.zero_le _) (Nat.zero_le _) (⟨by rw [if_pos (bI_n.mp cA), if_neg cB], rfl, rfl⟩)
  · refine q_iconst (v := (-1)) dX9_goes_9 rfl ?_
    exact q_iret dX9_goes_10 rfl (Nat.zero_le _) (Nat.zero_le _) (⟨by rw [if_neg (by rw [bI_0.mp cA]; decide)], rfl, rfl⟩)
theorem n_out_no {p q : Int32} (hr : ¬ dyR (pAll f) p q = 0) (hM : hat as h m (mo tc r z)) (hn : z 3 = nI n) (hn8 : n ≤ 8) (hf : hat as h (r 13) (aI Γ 240 f)) (hz : zro n f) : Det Γ l mX9_out rX9_out [.ref m, .int p, .int q] as h (some (.int (dyR (pAll f) p q))) h := by
  rw [dyR_D] at hr ⊢
  refine Con.of (by decide +kernel) rfl rfl (Nat.le_of_ble_eq_true rfl) ?_
  refine q_aload_n dX9_out_0 rfl rfl ?_
  refine q_iload_n dX9_out_1 rfl rfl ?_
  refine q_iload_n dX9_out_2 rfl rfl ?_
  refine q_callVd dX9_out_3 wX9_out_160 (n_isDay hM) (hM) ⟨_, _, rfl⟩ rfl rfl (Nat.le_of_ble_eq_true rfl) ⟨⟨Nat.le_of_ble_eq_true rfl, Nat.le_of_ble_eq_true rfl⟩, Nat.le_of_ble_eq_true rfl, Nat.le_of_ble_eq_true rfl⟩ ?_
  refine q_if_ne 11 dX9_out_6 (by decide) (fun cA => ?_) (fun cA => ?_)
  · refine q_iload_n dX9_out_11 rfl rfl ?_
    refine q_aload_n dX9_out_12 rfl rfl ?_
    refine q_callVd dX9_out_13 wX9_out_164 (n_allCoins hM hn hn8 hf hz) (hM) ⟨_, _, rfl⟩ rfl rfl (Nat.le_of_ble_eq_true rfl) ⟨⟨Nat.le_of_ble_eq_true rfl, Nat.le_of_ble_eq_true rfl⟩, Nat.le_of_ble_eq_true rfl, Nat.le_of_ble_eq_true rfl⟩ ?_
    refine q_icmp_le 22 dX9_out_16 (by decide) (fun cB => ?_) (fun cB => ?_)
    · exact absurd (by rw [if_pos (bI_n.mp cA), if_pos cB]) hr
    · refine q_bipush (v := (-2)) dX9_out_19 rfl ?_
      exact q_iret dX9_out_21 rfl (Nat.zero_le _) (Nat.zero_le _) (⟨by rw [if_pos (bI_n.mp cA), if_neg cB], rfl, rfl⟩)
  · refine q_iconst (v := (-1)) dX9_out_9 rfl ?_
    exact q_iret dX9_out_10 rfl (Nat.zero_le _) (Nat.zero_le _) (⟨by rw [if_neg (by rw [bI_0.mp cA]; decide)], rfl, rfl⟩)
theorem n_rests_no {p : Int32} (hr : ¬ dyR (pAll f) p 0 = 0) (hM : hat as h m (mo tc r z)) (hn : z 3 = nI n) (hn8 : n ≤ 8) (hf : hat as h (r 13) (aI Γ 240 f)) (hz : zro n f) : Det Γ l mX9_rests rX9_rests [.ref m, .int p] as h (some (.int (dyR (pAll f) p 0))) h := by
  rw [dyR_D, isD_0] at hr ⊢
  refine Con.of (by decide +kernel) rfl rfl (Nat.le_of_ble_eq_true rfl) ?_
  refine q_iload_n dX9_rests_0 rfl rfl ?_
  refine q_i2l dX9_rests_1 ?_
  refine q_lconst (v := 1) dX9_rests_2 rfl ?_
  refine q_ldc2 (v := 30) dX9_rests_3 (by decide +kernel) ?_
  refine q_callSd dX9_rests_6 wX9_rests_60 (n_in) rfl rfl (Nat.le_of_ble_eq_true rfl) ⟨⟨Nat.le_of_ble_eq_true rfl, Nat.le_of_ble_eq_true rfl⟩, Nat.le_of_ble_eq_true rfl, Nat.le_of_ble_eq_true rfl⟩ ?_
  rw [inB_i (a := 1) (b := 30) (by decide) (by decide)]
  refine q_if_ne 14 dX9_rests_9 (by decide) (fun cA => ?_) (fun cA => ?_)
  · refine q_iload_n dX9_rests_14 rfl rfl ?_
    refine q_aload_n dX9_rests_15 rfl rfl ?_
    refine q_callVd dX9_rests_16 wX9_rests_164 (n_allCoins hM hn hn8 hf hz) (hM) ⟨_, _, rfl⟩ rfl rfl (Nat.le_of_ble_eq_true rfl) ⟨⟨Nat.le_of_ble_eq_true rfl, Nat.le_of_ble_eq_true rfl⟩, Nat.le_of_ble_eq_true rfl, Nat.le_of_ble_eq_true rfl⟩ ?_
    refine q_icmp_le 25 dX9_rests_19 (by decide) (fun cB => ?_) (fun cB => ?_)
    · exact absurd (by rw [if_pos (bI_n.mp cA), if_pos cB]) hr
    · refine q_bipush (v := (-2)) dX9_rests_22 rfl ?_
      exact q_iret dX9_rests_24 rfl (Nat.zero_le _) (Nat.zero_le _) (⟨by rw [if_pos (bI_n.mp cA), if_neg cB], rfl, rfl⟩)
  · refine q_iconst (v := (-1)) dX9_rests_12 rfl ?_
    exact q_iret dX9_rests_13 rfl (Nat.zero_le _) (Nat.zero_le _) (⟨by rw [if_neg (by rw [bI_0.mp cA]; decide)], rfl, rfl⟩)
theorem n_tip_no {p : Int32} (hr : ¬ dyR (pAll f) p 0 = 0) (hM : hat as h m (mo tc r z)) (hn : z 3 = nI n) (hn8 : n ≤ 8) (hf : hat as h (r 13) (aI Γ 240 f)) (hz : zro n f) : Det Γ l mX9_tip rX9_tip [.ref m, .int p] as h (some (.int (dyR (pAll f) p 0))) h := by
  rw [dyR_D, isD_0] at hr ⊢
  refine Con.of (by decide +kernel) rfl rfl (Nat.le_of_ble_eq_true rfl) ?_
  refine q_iload_n dX9_tip_0 rfl rfl ?_
  refine q_i2l dX9_tip_1 ?_
  refine q_lconst (v := 1) dX9_tip_2 rfl ?_
  refine q_ldc2 (v := 30) dX9_tip_3 (by decide +kernel) ?_
  refine q_callSd dX9_tip_6 wX9_tip_60 (n_in) rfl rfl (Nat.le_of_ble_eq_true rfl) ⟨⟨Nat.le_of_ble_eq_true rfl, Nat.le_of_ble_eq_true rfl⟩, Nat.le_of_ble_eq_true rfl, Nat.le_of_ble_eq_true rfl⟩ ?_
  rw [inB_i (a := 1) (b := 30) (by decide) (by decide)]
  refine q_if_ne 14 dX9_tip_9 (by decide) (fun cA => ?_) (fun cA => ?_)
  · refine q_iload_n dX9_tip_14 rfl rfl ?_
    refine q_aload_n dX9_tip_15 rfl rfl ?_
    refine q_callVd dX9_tip_16 wX9_tip_164 (n_allCoins hM hn hn8 hf hz) (hM) ⟨_, _, rfl⟩ rfl rfl (Nat.le_of_ble_eq_true rfl) ⟨⟨Nat.le_of_ble_eq_true rfl, Nat.le_of_ble_eq_true rfl⟩, Nat.le_of_ble_eq_true rfl, Nat.le_of_ble_eq_true rfl⟩ ?_
    refine q_icmp_le 25 dX9_tip_19 (by decide) (fun cB => ?_) (fun cB => ?_)
    · exact absurd (by rw [if_pos (bI_n.mp cA), if_pos cB]) hr
    · refine q_bipush (v := (-2)) dX9_tip_22 rfl ?_
      exact q_iret dX9_tip_24 rfl (Nat.zero_le _) (Nat.zero_le _) (⟨by rw [if_pos (bI_n.mp cA), if_neg cB], rfl, rfl⟩)
  · refine q_iconst (v := (-1)) dX9_tip_12 rfl ?_
    exact q_iret dX9_tip_13 rfl (Nat.zero_le _) (Nat.zero_le _) (⟨by rw [if_neg (by rw [bI_0.mp cA]; decide)], rfl, rfl⟩)
theorem n_gain_no {p q a b : Int32} (hr : a < 0 ∨ 1 < a ∨ isUL b = false ∨ ¬ dyR (pAll f) p q = 0) (hM : hat as h m (mo tc r z)) (hn : z 3 = nI n) (hn8 : n ≤ 8) (hf : hat as h (r 13) (aI Γ 240 f)) (hz : zro n f) : Det Γ l mX9_gain rX9_gain [.ref m, .int p, .int q, .int a, .int b] as h (some (.long (-1000000000000000000))) h := by
  rw [dyR_D] at hr
  refine Con.of (by decide +kernel) rfl rfl (Nat.le_of_ble_eq_true rfl) ?_
  refine q_aload_n dX9_gain_0 rfl rfl ?_
  refine q_iload_n dX9_gain_1 rfl rfl ?_
  refine q_iload_n dX9_gain_2 rfl rfl ?_
  refine q_callVd dX9_gain_3 wX9_gain_160 (n_isDay hM) (hM) ⟨_, _, rfl⟩ rfl rfl (Nat.le_of_ble_eq_true rfl) ⟨⟨Nat.le_of_ble_eq_true rfl, Nat.le_of_ble_eq_true rfl⟩, Nat.le_of_ble_eq_true rfl, Nat.le_of_ble_eq_true rfl⟩ ?_
  refine q_if_eq 38 dX9_gain_6 (by decide) (fun cA => ?_) (fun cA => ?_)
  · refine q_ldc2 (v := (-1000000000000000000)) dX9_gain_38 (by decide +kernel) ?_
    exact q_lret dX9_gain_41 rfl (Nat.zero_le _) (Nat.zero_le _) (⟨rfl, rfl, rfl⟩)
  · refine q_iload_n dX9_gain_9 rfl rfl ?_
    refine q_i2l dX9_gain_10 ?_
    refine q_lconst (v := 0) dX9_gain_11 rfl ?_
    refine q_lconst (v := 1) dX9_gain_12 rfl ?_
    refine q_callSd dX9_gain_13 wX9_gain_60 (n_in) rfl rfl (Nat.le_of_ble_eq_true rfl) ⟨⟨Nat.le_of_ble_eq_true rfl, Nat.le_of_ble_eq_true rfl⟩, Nat.le_of_ble_eq_true rfl, Nat.le_of_ble_eq_true rfl⟩ ?_
    rw [inB_i (a := 0) (b := 1) (by decide) (by decide)]
    refine q_if_eq 38 dX9_gain_16 (by decide) (fun cB => ?_) (fun cB => ?_)
    · refine q_ldc2 (v := (-1000000000000000000)) dX9_gain_38 (by decide +kernel) ?_
      exact q_lret dX9_gain_41 rfl (Nat.zero_le _) (Nat.zero_le _) (⟨rfl, rfl, rfl⟩)
    · refine q_iload dX9_gain_19 rfl ?_
      refine q_i2l dX9_gain_21 ?_
      refine q_lconst (v := 0) dX9_gain_22 rfl ?_
      refine q_lconst (v := 1) dX9_gain_23 rfl ?_
      refine q_callSd dX9_gain_24 wX9_gain_60 (n_in) rfl rfl (Nat.le_of_ble_eq_true rfl) ⟨⟨Nat.le_of_ble_eq_true rfl, Nat.le_of_ble_eq_true rfl⟩, Nat.le_of_ble_eq_true rfl, Nat.le_of_ble_eq_true rfl⟩ ?_
      rw [inB_UL]
      refine q_if_eq 38 dX9_gain_27 (by decide) (fun cC => ?_) (fun cC => ?_)
      · refine q_ldc2 (v := (-1000000000000000000)) dX9_gain_38 (by decide +kernel) ?_
        exact q_lret dX9_gain_41 rfl (Nat.zero_le _) (Nat.zero_le _) (⟨rfl, rfl, rfl⟩)
      · refine q_iload_n dX9_gain_30 rfl rfl ?_
        refine q_aload_n dX9_gain_31 rfl rfl ?_
        refine q_callVd dX9_gain_32 wX9_gain_164 (n_allCoins hM hn hn8 hf hz) (hM) ⟨_, _, rfl⟩ rfl rfl (Nat.le_of_ble_eq_true rfl) ⟨⟨Nat.le_of_ble_eq_true rfl, Nat.le_of_ble_eq_true rfl⟩, Nat.le_of_ble_eq_true rfl, Nat.le_of_ble_eq_true rfl⟩ ?_
        refine q_icmp_le 42 dX9_gain_35 (by decide) (fun cD => ?_) (fun cD => ?_)
        · have hB := bI_n.mp cB
          rw [Bool.and_eq_true, decide_eq_true_eq, decide_eq_true_eq] at hB
          exact absurd hr (by rintro (e | e | e | e) <;> first | exact absurd hB.1 (Int32.not_le.mpr e) | exact absurd hB.2 (Int32.not_le.mpr e) | exact cC (by rw [e]; rfl) | exact e (by rw [if_pos (bI_n.mp cA), if_pos cD]))
        · refine q_ldc2 (v := (-1000000000000000000)) dX9_gain_38 (by decide +kernel) ?_
          exact q_lret dX9_gain_41 rfl (Nat.zero_le _) (Nat.zero_le _) (⟨rfl, rfl, rfl⟩)
theorem n_isUp (ht : t ≤ 30) (hk : k ≤ t) (hM : hat as h m (mo tc r z)) (hn : z 3 = nI n) (hn8 : n ≤ 8) (hf : hat as h (r 13) (aI Γ 240 f)) (hz : zro n f) (hW : ∀ j, j < 10 → pWt f j = nI (W j) ∧ W j < 1000) (hu : hat as h (r 17) (aI Γ 6 u)) : Det Γ l mX9_isUp rX9_isUp [.ref m, .int (nI t), .int (nI k)] as h (some (.int (bI (nUp W (u 1) t k)))) h := by
  refine Con.of (by decide +kernel) rfl rfl (Nat.le_of_ble_eq_true rfl) ?_
  refine q_iload_n dX9_isUp_0 rfl rfl ?_
  refine q_iload_n dX9_isUp_1 rfl rfl ?_
  refine q_icmp_ge 33 dX9_isUp_2 (by decide) (fun cA => ?_) (fun cA => ?_)
  · rw [show nUp W (u 1) t k = false by
        unfold nUp
        rw [Bool.and_eq_false_iff, decide_eq_false_iff_not, decide_eq_false_iff_not]
        first | exact Or.inr (Int32.not_lt.mpr cB) | exact Or.inl (Nat.not_lt.mpr ((nI_leI (by omega) (by omega)).mp cA))]
    refine q_iconst (v := 0) dX9_isUp_33 rfl ?_
    exact q_zret dX9_isUp_34 rfl (rfl) (Nat.zero_le _) (Nat.zero_le _) (⟨rfl, rfl, rfl⟩)
  · have hkt : k < t := Nat.lt_of_not_le (fun e => cA (nI_le e (by omega)))
    refine q_aload_n dX9_isUp_5 rfl rfl ?_
    refine q_iload_n dX9_isUp_6 rfl rfl ?_
    refine q_iconst (v := 1) dX9_isUp_7 rfl ?_
    refine q_iadd dX9_isUp_8 ?_
    rw [nI_s]
    refine q_callVd dX9_isUp_9 wX9_isUp_173 (n_lookUp (W := W) (by omega) hM hn hn8 hf hz hW hu) (hM) ⟨_, _, rfl⟩ rfl rfl (Nat.le_of_ble_eq_true rfl) ⟨⟨Nat.le_of_ble_eq_true rfl, Nat.le_of_ble_eq_true rfl⟩, Nat.le_of_ble_eq_true rfl, Nat.le_of_ble_eq_true rfl⟩ ?_
    refine q_iload_n dX9_isUp_12 rfl rfl ?_
    refine q_iload_n dX9_isUp_13 rfl rfl ?_
    refine q_isub dX9_isUp_14 ?_
    refine q_imul dX9_isUp_15 ?_
    refine q_aload_n dX9_isUp_16 rfl rfl ?_
    refine q_iload_n dX9_isUp_17 rfl rfl ?_
    refine q_iload_n dX9_isUp_18 rfl rfl ?_
    rw [pk_sub hk]
    refine q_callVd dX9_isUp_19 wX9_isUp_169 (n_taleUp (W := W) (by omega) hk hM hn hn8 hf hz hW) (hM) ⟨_, _, rfl⟩ rfl rfl (Nat.le_of_ble_eq_true rfl) ⟨⟨Nat.le_of_ble_eq_true rfl, Nat.le_of_ble_eq_true rfl⟩, Nat.le_of_ble_eq_true rfl, Nat.le_of_ble_eq_true rfl⟩ ?_
    refine q_iload_n dX9_isUp_22 rfl rfl ?_
    refine q_iconst (v := 1) dX9_isUp_23 rfl ?_
    refine q_iadd dX9_isUp_24 ?_
    refine q_imul dX9_isUp_25 ?_
    rw [nI_s]
    refine q_icmp_le 33 dX9_isUp_26 (by decide) (fun cB => ?_) (fun cB => ?_)
    · rw [show nUp W (u 1) t k = false by
          unfold nUp
          rw [Bool.and_eq_false_iff, decide_eq_false_iff_not, decide_eq_false_iff_not]
          first | exact Or.inr (Int32.not_lt.mpr cB) | exact Or.inl (Nat.not_lt.mpr ((nI_leI (by omega) (by omega)).mp cA))]
      refine q_iconst (v := 0) dX9_isUp_33 rfl ?_
      exact q_zret dX9_isUp_34 rfl (rfl) (Nat.zero_le _) (Nat.zero_le _) (⟨rfl, rfl, rfl⟩)
    · rw [show nUp W (u 1) t k = true by
          unfold nUp
          rw [Bool.and_eq_true, decide_eq_true_eq, decide_eq_true_eq]
          exact ⟨hkt, Int32.not_le.mp cB⟩]
      refine q_iconst (v := 1) dX9_isUp_29 rfl ?_
      refine q_goto 34 dX9_isUp_30 (by decide) ?_
      exact q_zret dX9_isUp_34 rfl (rfl) (Nat.zero_le _) (Nat.zero_le _) (⟨rfl, rfl, rfl⟩)
theorem n_isDown (ht : t ≤ 30) (hk : k ≤ t) (hM : hat as h m (mo tc r z)) (hn : z 3 = nI n) (hn8 : n ≤ 8) (hf : hat as h (r 13) (aI Γ 240 f)) (hz : zro n f) (hW : ∀ j, j < 10 → pWt f j = nI (W j) ∧ W j < 1000) (hu : hat as h (r 17) (aI Γ 6 u)) : Det Γ l mX9_isDown rX9_isDown [.ref m, .int (nI t), .int (nI k)] as h (some (.int (bI (nDn W (u 1) t k)))) h := by
  refine Con.of (by decide +kernel) rfl rfl (Nat.le_of_ble_eq_true rfl) ?_
  refine q_iload_n dX9_isDown_0 rfl rfl ?_
  refine q_if_le 32 dX9_isDown_1 (by decide) (fun cA => ?_) (fun cA => ?_)
  · rw [show nDn W (u 1) t k = false by
        unfold nDn
        rw [Bool.and_eq_false_iff, decide_eq_false_iff_not, decide_eq_false_iff_not]
        first | exact Or.inr (Int32.not_lt.mpr cB) | exact Or.inl (fun e => nI_nle e (by omega) cA)]
    refine q_iconst (v := 0) dX9_isDown_32 rfl ?_
    exact q_zret dX9_isDown_33 rfl (rfl) (Nat.zero_le _) (Nat.zero_le _) (⟨rfl, rfl, rfl⟩)
  · have hk0 : 0 < k := Nat.pos_of_ne_zero (fun e => cA (by rw [e]; exact Int32.le_refl _))
    refine q_aload_n dX9_isDown_4 rfl rfl ?_
    refine q_iload_n dX9_isDown_5 rfl rfl ?_
    refine q_iload_n dX9_isDown_6 rfl rfl ?_
    refine q_iconst (v := 1) dX9_isDown_7 rfl ?_
    refine q_isub dX9_isDown_8 ?_
    rw [show nI k - 1 = nI (k - 1) from pk_sub (b := 1) hk0]
    refine q_callVd dX9_isDown_9 wX9_isDown_169 (n_taleUp (W := W) (by omega) (show k - 1 ≤ t by omega) hM hn hn8 hf hz hW) (hM) ⟨_, _, rfl⟩ rfl rfl (Nat.le_of_ble_eq_true rfl) ⟨⟨Nat.le_of_ble_eq_true rfl, Nat.le_of_ble_eq_true rfl⟩, Nat.le_of_ble_eq_true rfl, Nat.le_of_ble_eq_true rfl⟩ ?_
    refine q_iload_n dX9_isDown_12 rfl rfl ?_
    refine q_imul dX9_isDown_13 ?_
    refine q_aload_n dX9_isDown_14 rfl rfl ?_
    refine q_iload_n dX9_isDown_15 rfl rfl ?_
    refine q_callVd dX9_isDown_16 wX9_isDown_173 (n_lookUp (W := W) (by omega) hM hn hn8 hf hz hW hu) (hM) ⟨_, _, rfl⟩ rfl rfl (Nat.le_of_ble_eq_true rfl) ⟨⟨Nat.le_of_ble_eq_true rfl, Nat.le_of_ble_eq_true rfl⟩, Nat.le_of_ble_eq_true rfl, Nat.le_of_ble_eq_true rfl⟩ ?_
    refine q_iload_n dX9_isDown_19 rfl rfl ?_
    refine q_iload_n dX9_isDown_20 rfl rfl ?_
    refine q_isub dX9_isDown_21 ?_
    refine q_iconst (v := 1) dX9_isDown_22 rfl ?_
    refine q_iadd dX9_isDown_23 ?_
    refine q_imul dX9_isDown_24 ?_
    rw [pk_sub hk, nI_s]
    refine q_icmp_le 32 dX9_isDown_25 (by decide) (fun cB => ?_) (fun cB => ?_)
    · rw [show nDn W (u 1) t k = false by
          unfold nDn
          rw [Bool.and_eq_false_iff, decide_eq_false_iff_not, decide_eq_false_iff_not]
          first | exact Or.inr (Int32.not_lt.mpr cB) | exact Or.inl (fun e => nI_nle e (by omega) cA)]
      refine q_iconst (v := 0) dX9_isDown_32 rfl ?_
      exact q_zret dX9_isDown_33 rfl (rfl) (Nat.zero_le _) (Nat.zero_le _) (⟨rfl, rfl, rfl⟩)
    · rw [show nDn W (u 1) t k = true by
          unfold nDn
          rw [Bool.and_eq_true, decide_eq_true_eq, decide_eq_true_eq]
          exact ⟨hk0, Int32.not_le.mp cB⟩]
      refine q_iconst (v := 1) dX9_isDown_28 rfl ?_
      refine q_goto 33 dX9_isDown_29 (by decide) ?_
      exact q_zret dX9_isDown_33 rfl (rfl) (Nat.zero_le _) (Nat.zero_le _) (⟨rfl, rfl, rfl⟩)
theorem n_rests (h1 : 1 ≤ t) (ht : t ≤ 30) (h4 : nI t ≤ pAll f) (hM : hat as h m (mo tc r z)) (hn : z 3 = nI n) (hn8 : n ≤ 8) (hf : hat as h (r 13) (aI Γ 240 f)) (hz : zro n f) (hW : ∀ j, j < 10 → pWt f j = nI (W j) ∧ W j < 1000) (hu : hat as h (r 17) (aI Γ 6 u)) : Det Γ l mX9_rests rX9_rests [.ref m, .int (nI t)] as h (some (.int (rsS (nUp W (u 1) t) (nDn W (u 1) t) (t + 1)))) h := by
  have key : ∀ (d k : Nat) (x y : Int32) (ls : List (Nat × Value)), k + d = t + 1 → x = rsS (nUp W (u 1) t) (nDn W (u 1) t) k → y = nI k → lin ls [(0, .ref m), (1, .int (nI t)), (2, .int x), (3, .int y)] → V Γ l mX9_rests rX9_rests (Zm Γ rX9_rests (qD (some (.int (rsS (nUp W (u 1) t) (nDn W (u 1) t) (t + 1)))) as h)) 0 0 29 ls [] as h := by
    intro d
    induction d with
    | zero =>
      intro k x y ls hk hx hy hl
      subst hx hy
      refine V.at ?_ hl
      refine q_iload_n dX9_rests_29 rfl rfl ?_
      refine q_iload_n dX9_rests_30 rfl rfl ?_
      refine q_icmp_gt 68 dX9_rests_31 (by decide) (fun _ => ?_) (fun z => absurd (nI_lt (by omega) (by omega)) z)
      refine q_iload_n dX9_rests_68 rfl rfl ?_
      exact q_iret dX9_rests_69 rfl (Nat.zero_le _) (Nat.zero_le _) (⟨by rw [show k = t + 1 by omega], rfl, rfl⟩)
    | succ d ih =>
      intro k x y ls hk hx hy hl
      subst hx hy
      refine V.at ?_ hl
      refine q_iload_n dX9_rests_29 rfl rfl ?_
      refine q_iload_n dX9_rests_30 rfl rfl ?_
      refine q_icmp_gt 68 dX9_rests_31 (by decide) (fun z => absurd z (nI_nlt (by omega) (by omega))) (fun _ => ?_)
      refine q_iload_n dX9_rests_34 rfl rfl ?_
      refine q_aload_n dX9_rests_35 rfl rfl ?_
      refine q_iload_n dX9_rests_36 rfl rfl ?_
      refine q_iload_n dX9_rests_37 rfl rfl ?_
      refine q_callVd dX9_rests_38 wX9_rests_182 (n_isUp (W := W) ht (show k ≤ t by omega) hM hn hn8 hf hz hW hu) (hM) ⟨_, _, rfl⟩ rfl rfl (Nat.le_of_ble_eq_true rfl) ⟨⟨Nat.le_of_ble_eq_true rfl, Nat.le_of_ble_eq_true rfl⟩, Nat.le_of_ble_eq_true rfl, Nat.le_of_ble_eq_true rfl⟩ ?_
      refine q_if_ne 53 dX9_rests_41 (by decide) (fun cA => ?_) (fun cA => ?_)
      · refine q_iconst (v := 0) dX9_rests_53 rfl ?_
        refine q_goto 60 dX9_rests_54 (by decide) ?_
        refine q_ior dX9_rests_60 ?_
        refine q_istore_n dX9_rests_61 rfl (by decide) ?_
        refine q_iinc1 dX9_rests_62 rfl (by decide) ?_
        refine q_goto 29 dX9_rests_65 (by decide) ?_
        exact ih (k + 1) _ _ _ (by omega) (by simp only [rsS]; first | rw [if_neg (by rw [bI_0.mp cA, bI_0.mp cB]; decide)] | (rw [if_pos (by rw [bI_n.mp cB, Bool.or_true])]; exact Int32.or_zero) | (rw [if_pos (by rw [bI_n.mp cA, Bool.true_or])]; exact Int32.or_zero)) (nI_s k) ⟨rfl, rfl, rfl, rfl, trivial⟩
      · refine q_aload_n dX9_rests_44 rfl rfl ?_
        refine q_iload_n dX9_rests_45 rfl rfl ?_
        refine q_iload_n dX9_rests_46 rfl rfl ?_
        refine q_callVd dX9_rests_47 wX9_rests_185 (n_isDown (W := W) ht (show k ≤ t by omega) hM hn hn8 hf hz hW hu) (hM) ⟨_, _, rfl⟩ rfl rfl (Nat.le_of_ble_eq_true rfl) ⟨⟨Nat.le_of_ble_eq_true rfl, Nat.le_of_ble_eq_true rfl⟩, Nat.le_of_ble_eq_true rfl, Nat.le_of_ble_eq_true rfl⟩ ?_
        refine q_if_eq 57 dX9_rests_50 (by decide) (fun cB => ?_) (fun cB => ?_)
        · refine q_iconst (v := 1) dX9_rests_57 rfl ?_
          refine q_iload_n dX9_rests_58 rfl rfl ?_
          refine q_ishl dX9_rests_59 ?_
          refine q_ior dX9_rests_60 ?_
          refine q_istore_n dX9_rests_61 rfl (by decide) ?_
          refine q_iinc1 dX9_rests_62 rfl (by decide) ?_
          refine q_goto 29 dX9_rests_65 (by decide) ?_
          exact ih (k + 1) _ _ _ (by omega) (by simp only [rsS]; first | rw [if_neg (by rw [bI_0.mp cA, bI_0.mp cB]; decide)] | (rw [if_pos (by rw [bI_n.mp cB, Bool.or_true])]; exact Int32.or_zero) | (rw [if_pos (by rw [bI_n.mp cA, Bool.true_or])]; exact Int32.or_zero)) (nI_s k) ⟨rfl, rfl, rfl, rfl, trivial⟩
        · refine q_iconst (v := 0) dX9_rests_53 rfl ?_
          refine q_goto 60 dX9_rests_54 (by decide) ?_
          refine q_ior dX9_rests_60 ?_
          refine q_istore_n dX9_rests_61 rfl (by decide) ?_
          refine q_iinc1 dX9_rests_62 rfl (by decide) ?_
          refine q_goto 29 dX9_rests_65 (by decide) ?_
          exact ih (k + 1) _ _ _ (by omega) (by simp only [rsS]; first | rw [if_neg (by rw [bI_0.mp cA, bI_0.mp cB]; decide)] | (rw [if_pos (by rw [bI_n.mp cB, Bool.or_true])]; exact Int32.or_zero) | (rw [if_pos (by rw [bI_n.mp cA, Bool.true_or])]; exact Int32.or_zero)) (nI_s k) ⟨rfl, rfl, rfl, rfl, trivial⟩
  refine Con.of (by decide +kernel) rfl rfl (Nat.le_of_ble_eq_true rfl) ?_
  refine q_iload_n dX9_rests_0 rfl rfl ?_
  refine q_i2l dX9_rests_1 ?_
  refine q_lconst (v := 1) dX9_rests_2 rfl ?_
  refine q_ldc2 (v := 30) dX9_rests_3 (by decide +kernel) ?_
  refine q_callSd dX9_rests_6 wX9_rests_60 (n_in) rfl rfl (Nat.le_of_ble_eq_true rfl) ⟨⟨Nat.le_of_ble_eq_true rfl, Nat.le_of_ble_eq_true rfl⟩, Nat.le_of_ble_eq_true rfl, Nat.le_of_ble_eq_true rfl⟩ ?_
  refine q_if_ne 14 dX9_rests_9 (by decide) (fun _ => ?_) (fun z => absurd z (by rw [inB_nI (a := 1) (b := 30) (by decide) (by decide) h1 ht (by omega)]; decide))
  refine q_iload_n dX9_rests_14 rfl rfl ?_
  refine q_aload_n dX9_rests_15 rfl rfl ?_
  refine q_callVd dX9_rests_16 wX9_rests_164 (n_allCoins hM hn hn8 hf hz) (hM) ⟨_, _, rfl⟩ rfl rfl (Nat.le_of_ble_eq_true rfl) ⟨⟨Nat.le_of_ble_eq_true rfl, Nat.le_of_ble_eq_true rfl⟩, Nat.le_of_ble_eq_true rfl, Nat.le_of_ble_eq_true rfl⟩ ?_
  refine q_icmp_le 25 dX9_rests_19 (by decide) (fun _ => ?_) (fun z => absurd (h4) z)
  refine q_iconst (v := 0) dX9_rests_25 rfl ?_
  refine q_istore_n dX9_rests_26 rfl (by decide) ?_
  refine q_iconst (v := 0) dX9_rests_27 rfl ?_
  refine q_istore_n dX9_rests_28 rfl (by decide) ?_
  exact key (t + 1) 0 _ _ _ (by omega) rfl rfl ⟨rfl, rfl, rfl, rfl, trivial⟩
theorem n_end (ht : t ≤ 30) (hk : k ≤ t) (hM : hat as h m (mo tc r z)) (hn : z 3 = nI n) (hn8 : n ≤ 8) (hf : hat as h (r 13) (aI Γ 240 f)) (hz : zro n f) (hW : ∀ j, j < 10 → pWt f j = nI (W j) ∧ W j < 1000) (hu : hat as h (r 17) (aI Γ 6 u)) : Det Γ l mX9_end rX9_end [.ref m, .int (nI t), .int (nI k)] as h (some (.int (nI (enS (nUp W (u 1) t) (nDn W (u 1) t) t k)))) h := by
  have hUp : ∀ k, nUp W (u 1) t k = true → k < t := fun k => nUp_lt
  have hDp : ∀ k, nDn W (u 1) t k = true → 0 < k := fun k => nDn_pos
  have key : ∀ (d j : Nat) (r0 : Nat) (v3 v4 : Int32) (ls : List (Nat × Value)), j ≤ t → enT (nUp W (u 1) t) (nDn W (u 1) t) (enS (nUp W (u 1) t) (nDn W (u 1) t) d j) = enS (nUp W (u 1) t) (nDn W (u 1) t) d j → r0 = enS (nUp W (u 1) t) (nDn W (u 1) t) d j → v3 = nI j → ¬ v4 = 0 → lin ls [(0, .ref m), (1, .int (nI t)), (3, .int v3), (4, .int v4)] → V Γ l mX9_end rX9_end (Zm Γ rX9_end (qD (some (.int (nI r0))) as h)) 0 0 5 ls [] as h := by
    intro d
    induction d with
    | zero =>
      intro j r0 v3 v4 ls hj hfix hr e3 h4 hl
      subst e3
      refine V.at ?_ hl
      have hfix : enT (nUp W (u 1) t) (nDn W (u 1) t) j = j := hfix
      refine q_iload dX9_end_5 rfl ?_
      refine q_if_eq 47 dX9_end_7 (by decide) (fun z => absurd z (h4)) (fun _ => ?_)
      refine q_aload_n dX9_end_10 rfl rfl ?_
      refine q_iload_n dX9_end_11 rfl rfl ?_
      refine q_iload_n dX9_end_12 rfl rfl ?_
      refine q_callVd dX9_end_13 wX9_end_182 (n_isUp (W := W) ht hj hM hn hn8 hf hz hW hu) (hM) ⟨_, _, rfl⟩ rfl rfl (Nat.le_of_ble_eq_true rfl) ⟨⟨Nat.le_of_ble_eq_true rfl, Nat.le_of_ble_eq_true rfl⟩, Nat.le_of_ble_eq_true rfl, Nat.le_of_ble_eq_true rfl⟩ ?_
      refine q_if_eq 23 dX9_end_16 (by decide) (fun cA => ?_) (fun cA => ?_)
      · refine q_aload_n dX9_end_23 rfl rfl ?_
        refine q_iload_n dX9_end_24 rfl rfl ?_
        refine q_iload_n dX9_end_25 rfl rfl ?_
        refine q_callVd dX9_end_26 wX9_end_185 (n_isDown (W := W) ht hj hM hn hn8 hf hz hW hu) (hM) ⟨_, _, rfl⟩ rfl rfl (Nat.le_of_ble_eq_true rfl) ⟨⟨Nat.le_of_ble_eq_true rfl, Nat.le_of_ble_eq_true rfl⟩, Nat.le_of_ble_eq_true rfl, Nat.le_of_ble_eq_true rfl⟩ ?_
        refine q_if_eq 36 dX9_end_29 (by decide) (fun cB => ?_) (fun cB => ?_)
        · refine q_iconst (v := 0) dX9_end_36 rfl ?_
          refine q_istore dX9_end_37 (by decide) ?_
          refine q_iload_n dX9_end_39 rfl rfl ?_
          refine q_iload dX9_end_40 rfl ?_
          refine q_iadd dX9_end_42 ?_
          refine q_istore_n dX9_end_43 rfl (by decide) ?_
          refine q_goto 5 dX9_end_44 (by decide) ?_
          refine q_iload dX9_end_5 rfl ?_
          refine q_if_eq 47 dX9_end_7 (by decide) (fun _ => ?_) (fun q => absurd rfl q)
          refine q_iload_n dX9_end_47 rfl rfl ?_
          exact q_iret dX9_end_48 rfl (Nat.zero_le _) (Nat.zero_le _) ⟨by rw [Int32.add_zero, hr]; rfl, rfl, rfl⟩
        · exact absurd hfix (by have := hDp j (bI_n.mp cB); unfold enT; rw [if_neg (by rw [bI_0.mp cA]; decide), if_pos (bI_n.mp cB)]; omega)
      · exact absurd hfix (by unfold enT; rw [if_pos (bI_n.mp cA)]; omega)
    | succ d ih =>
      intro j r0 v3 v4 ls hj hfix hr e3 h4 hl
      subst e3
      refine V.at ?_ hl
      refine q_iload dX9_end_5 rfl ?_
      refine q_if_eq 47 dX9_end_7 (by decide) (fun z => absurd z (h4)) (fun _ => ?_)
      refine q_aload_n dX9_end_10 rfl rfl ?_
      refine q_iload_n dX9_end_11 rfl rfl ?_
      refine q_iload_n dX9_end_12 rfl rfl ?_
      refine q_callVd dX9_end_13 wX9_end_182 (n_isUp (W := W) ht hj hM hn hn8 hf hz hW hu) (hM) ⟨_, _, rfl⟩ rfl rfl (Nat.le_of_ble_eq_true rfl) ⟨⟨Nat.le_of_ble_eq_true rfl, Nat.le_of_ble_eq_true rfl⟩, Nat.le_of_ble_eq_true rfl, Nat.le_of_ble_eq_true rfl⟩ ?_
      refine q_if_eq 23 dX9_end_16 (by decide) (fun cA => ?_) (fun cA => ?_)
      · refine q_aload_n dX9_end_23 rfl rfl ?_
        refine q_iload_n dX9_end_24 rfl rfl ?_
        refine q_iload_n dX9_end_25 rfl rfl ?_
        refine q_callVd dX9_end_26 wX9_end_185 (n_isDown (W := W) ht hj hM hn hn8 hf hz hW hu) (hM) ⟨_, _, rfl⟩ rfl rfl (Nat.le_of_ble_eq_true rfl) ⟨⟨Nat.le_of_ble_eq_true rfl, Nat.le_of_ble_eq_true rfl⟩, Nat.le_of_ble_eq_true rfl, Nat.le_of_ble_eq_true rfl⟩ ?_
        refine q_if_eq 36 dX9_end_29 (by decide) (fun cB => ?_) (fun cB => ?_)
        · have e : enT (nUp W (u 1) t) (nDn W (u 1) t) j = j := by unfold enT; rw [if_neg (by rw [bI_0.mp cA]; decide), if_neg (by rw [bI_0.mp cB]; decide)]
          refine q_iconst (v := 0) dX9_end_36 rfl ?_
          refine q_istore dX9_end_37 (by decide) ?_
          refine q_iload_n dX9_end_39 rfl rfl ?_
          refine q_iload dX9_end_40 rfl ?_
          refine q_iadd dX9_end_42 ?_
          refine q_istore_n dX9_end_43 rfl (by decide) ?_
          refine q_goto 5 dX9_end_44 (by decide) ?_
          refine q_iload dX9_end_5 rfl ?_
          refine q_if_eq 47 dX9_end_7 (by decide) (fun _ => ?_) (fun q => absurd rfl q)
          refine q_iload_n dX9_end_47 rfl rfl ?_
          exact q_iret dX9_end_48 rfl (Nat.zero_le _) (Nat.zero_le _) ⟨by rw [Int32.add_zero, hr, en_fix e], rfl, rfl⟩
        · have hp := hDp j (bI_n.mp cB)
          have e : enT (nUp W (u 1) t) (nDn W (u 1) t) j = j - 1 := by unfold enT; rw [if_neg (by rw [bI_0.mp cA]; decide), if_pos (bI_n.mp cB)]
          have hfix : enT (nUp W (u 1) t) (nDn W (u 1) t) (enS (nUp W (u 1) t) (nDn W (u 1) t) d (enT (nUp W (u 1) t) (nDn W (u 1) t) j)) = enS (nUp W (u 1) t) (nDn W (u 1) t) d (enT (nUp W (u 1) t) (nDn W (u 1) t) j) := hfix
          rw [e] at hfix
          refine q_iconst (v := (-1)) dX9_end_32 rfl ?_
          refine q_goto 37 dX9_end_33 (by decide) ?_
          refine q_istore dX9_end_37 (by decide) ?_
          refine q_iload_n dX9_end_39 rfl rfl ?_
          refine q_iload dX9_end_40 rfl ?_
          refine q_iadd dX9_end_42 ?_
          refine q_istore_n dX9_end_43 rfl (by decide) ?_
          refine q_goto 5 dX9_end_44 (by decide) ?_
          exact ih (j - 1) _ _ _ _ (by omega) hfix (by rw [hr, ← e]; rfl) (sb_m1 hp) (by decide) ⟨rfl, rfl, rfl, rfl, trivial⟩
      · have e : enT (nUp W (u 1) t) (nDn W (u 1) t) j = j + 1 := by unfold enT; rw [if_pos (bI_n.mp cA)]
        have hfix : enT (nUp W (u 1) t) (nDn W (u 1) t) (enS (nUp W (u 1) t) (nDn W (u 1) t) d (enT (nUp W (u 1) t) (nDn W (u 1) t) j)) = enS (nUp W (u 1) t) (nDn W (u 1) t) d (enT (nUp W (u 1) t) (nDn W (u 1) t) j) := hfix
        rw [e] at hfix
        refine q_iconst (v := 1) dX9_end_19 rfl ?_
        refine q_goto 37 dX9_end_20 (by decide) ?_
        refine q_istore dX9_end_37 (by decide) ?_
        refine q_iload_n dX9_end_39 rfl rfl ?_
        refine q_iload dX9_end_40 rfl ?_
        refine q_iadd dX9_end_42 ?_
        refine q_istore_n dX9_end_43 rfl (by decide) ?_
        refine q_goto 5 dX9_end_44 (by decide) ?_
        exact ih (j + 1) _ _ _ _ (hUp j (bI_n.mp cA)) hfix (by rw [hr, ← e]; rfl) (nI_s j) (by decide) ⟨rfl, rfl, rfl, rfl, trivial⟩
  refine Con.of (by decide +kernel) rfl rfl (Nat.le_of_ble_eq_true rfl) ?_
  refine q_iload_n dX9_end_0 rfl rfl ?_
  refine q_istore_n dX9_end_1 rfl (by decide) ?_
  refine q_iconst (v := 1) dX9_end_2 rfl ?_
  refine q_istore dX9_end_3 (by decide) ?_
  exact key t k _ _ _ _ hk (en_end hUp hDp (fun k => nUD) hk) rfl rfl (by decide) ⟨rfl, rfl, rfl, rfl, trivial⟩
theorem n_goes (h1 : 1 ≤ t) (ht : t ≤ 30) (hk : k ≤ t) (h4 : nI t ≤ pAll f) (hM : hat as h m (mo tc r z)) (hn : z 3 = nI n) (hn8 : n ≤ 8) (hf : hat as h (r 13) (aI Γ 240 f)) (hz : zro n f) (hW : ∀ j, j < 10 → pWt f j = nI (W j) ∧ W j < 1000) (hu : hat as h (r 17) (aI Γ 6 u)) : Det Γ l mX9_goes rX9_goes [.ref m, .int (nI t), .int (nI k)] as h (some (.int (nI (enS (nUp W (u 1) t) (nDn W (u 1) t) t k)))) h := by
  refine Con.of (by decide +kernel) rfl rfl (Nat.le_of_ble_eq_true rfl) ?_
  refine q_aload_n dX9_goes_0 rfl rfl ?_
  refine q_iload_n dX9_goes_1 rfl rfl ?_
  refine q_iload_n dX9_goes_2 rfl rfl ?_
  refine q_callVd dX9_goes_3 wX9_goes_160 (n_isDay hM) (hM) ⟨_, _, rfl⟩ rfl rfl (Nat.le_of_ble_eq_true rfl) ⟨⟨Nat.le_of_ble_eq_true rfl, Nat.le_of_ble_eq_true rfl⟩, Nat.le_of_ble_eq_true rfl, Nat.le_of_ble_eq_true rfl⟩ ?_
  refine q_if_ne 11 dX9_goes_6 (by decide) (fun _ => ?_) (fun z => absurd z (by rw [isD_nI h1 ht hk]; decide))
  refine q_iload_n dX9_goes_11 rfl rfl ?_
  refine q_aload_n dX9_goes_12 rfl rfl ?_
  refine q_callVd dX9_goes_13 wX9_goes_164 (n_allCoins hM hn hn8 hf hz) (hM) ⟨_, _, rfl⟩ rfl rfl (Nat.le_of_ble_eq_true rfl) ⟨⟨Nat.le_of_ble_eq_true rfl, Nat.le_of_ble_eq_true rfl⟩, Nat.le_of_ble_eq_true rfl, Nat.le_of_ble_eq_true rfl⟩ ?_
  refine q_icmp_le 24 dX9_goes_16 (by decide) (fun _ => ?_) (fun z => absurd (h4) z)
  refine q_aload_n dX9_goes_24 rfl rfl ?_
  refine q_iload_n dX9_goes_25 rfl rfl ?_
  refine q_iload_n dX9_goes_26 rfl rfl ?_
  refine q_callVd dX9_goes_27 wX9_goes_188 (n_end (W := W) ht hk hM hn hn8 hf hz hW hu) (hM) ⟨_, _, rfl⟩ rfl rfl (Nat.le_of_ble_eq_true rfl) ⟨⟨Nat.le_of_ble_eq_true rfl, Nat.le_of_ble_eq_true rfl⟩, Nat.le_of_ble_eq_true rfl, Nat.le_of_ble_eq_true rfl⟩ ?_
  exact q_iret dX9_goes_30 rfl (Nat.zero_le _) (Nat.zero_le _) (⟨rfl, rfl, rfl⟩)
theorem nEn_le (hk : k ≤ t) : ∀ d, enS (nUp W (u 1) t) (nDn W (u 1) t) d k ≤ t := by
  intro d
  induction d generalizing k with
  | zero => exact hk
  | succ d ih => exact ih (enT_le (fun k => nUp_lt) hk)
theorem n_tip (h1 : 1 ≤ t) (ht : t ≤ 30) (h4 : nI t ≤ pAll f) (hM : hat as h m (mo tc r z)) (hn : z 3 = nI n) (hn8 : n ≤ 8) (hf : hat as h (r 13) (aI Γ 240 f)) (hz : zro n f) (hW : ∀ j, j < 10 → pWt f j = nI (W j) ∧ W j < 1000) (hu : hat as h (r 17) (aI Γ 6 u)) : Det Γ l mX9_tip rX9_tip [.ref m, .int (nI t)] as h (some (.int (tiS (nUp W (u 1) t) (nDn W (u 1) t) t (t + 1) 0))) h := by
  have key : ∀ (d k : Nat) (r0 y : Int32) (ls : List (Nat × Value)), k + d = t + 1 → r0 = tiS (nUp W (u 1) t) (nDn W (u 1) t) t d k → y = nI k → lin ls [(0, .ref m), (1, .int (nI t)), (2, .int y)] → V Γ l mX9_tip rX9_tip (Zm Γ rX9_tip (qD (some (.int r0)) as h)) 0 0 27 ls [] as h := by
    intro d
    induction d with
    | zero =>
      intro k r0 y ls hk hx hy hl
      subst hx hy
      refine V.at ?_ hl
      refine q_iload_n dX9_tip_27 rfl rfl ?_
      refine q_iload_n dX9_tip_28 rfl rfl ?_
      refine q_icmp_gt 50 dX9_tip_29 (by decide) (fun _ => ?_) (fun z => absurd (nI_lt (by omega) (by omega)) z)
      refine q_bipush (v := (-9)) dX9_tip_50 rfl ?_
      exact q_iret dX9_tip_52 rfl (Nat.zero_le _) (Nat.zero_le _) (⟨rfl, rfl, rfl⟩)
    | succ d ih =>
      intro k r0 y ls hk hx hy hl
      subst hy
      refine V.at ?_ hl
      refine q_iload_n dX9_tip_27 rfl rfl ?_
      refine q_iload_n dX9_tip_28 rfl rfl ?_
      refine q_icmp_gt 50 dX9_tip_29 (by decide) (fun z => absurd z (nI_nlt (by omega) (by omega))) (fun _ => ?_)
      refine q_aload_n dX9_tip_32 rfl rfl ?_
      refine q_iload_n dX9_tip_33 rfl rfl ?_
      refine q_iload_n dX9_tip_34 rfl rfl ?_
      refine q_callVd dX9_tip_35 wX9_tip_188 (n_end (W := W) ht (show k ≤ t by omega) hM hn hn8 hf hz hW hu) (hM) ⟨_, _, rfl⟩ rfl rfl (Nat.le_of_ble_eq_true rfl) ⟨⟨Nat.le_of_ble_eq_true rfl, Nat.le_of_ble_eq_true rfl⟩, Nat.le_of_ble_eq_true rfl, Nat.le_of_ble_eq_true rfl⟩ ?_
      refine q_iload_n dX9_tip_38 rfl rfl ?_
      refine q_icmp_ne 44 dX9_tip_39 (by decide) (fun cA => ?_) (fun cA => ?_)
      · have e : ¬ enS (nUp W (u 1) t) (nDn W (u 1) t) t k = t := fun q => cA (by rw [q])
        refine q_iinc1 dX9_tip_44 rfl (by decide) ?_
        refine q_goto 27 dX9_tip_47 (by decide) ?_
        exact ih (k + 1) _ _ _ (by omega) (by rw [hx]; simp only [tiS]; rw [if_neg e]) (nI_s k) ⟨rfl, rfl, rfl, trivial⟩
      · have e : enS (nUp W (u 1) t) (nDn W (u 1) t) t k = t := (nI_eq (Nat.lt_of_le_of_lt (nEn_le (by omega) t) (by omega)) (by omega)).mp cA
        refine q_iload_n dX9_tip_42 rfl rfl ?_
        exact q_iret dX9_tip_43 rfl (Nat.zero_le _) (Nat.zero_le _) (⟨by rw [hx]; simp only [tiS]; rw [if_pos e], rfl, rfl⟩)
  refine Con.of (by decide +kernel) rfl rfl (Nat.le_of_ble_eq_true rfl) ?_
  refine q_iload_n dX9_tip_0 rfl rfl ?_
  refine q_i2l dX9_tip_1 ?_
  refine q_lconst (v := 1) dX9_tip_2 rfl ?_
  refine q_ldc2 (v := 30) dX9_tip_3 (by decide +kernel) ?_
  refine q_callSd dX9_tip_6 wX9_tip_60 (n_in) rfl rfl (Nat.le_of_ble_eq_true rfl) ⟨⟨Nat.le_of_ble_eq_true rfl, Nat.le_of_ble_eq_true rfl⟩, Nat.le_of_ble_eq_true rfl, Nat.le_of_ble_eq_true rfl⟩ ?_
  refine q_if_ne 14 dX9_tip_9 (by decide) (fun _ => ?_) (fun z => absurd z (by rw [inB_nI (a := 1) (b := 30) (by decide) (by decide) h1 ht (by omega)]; decide))
  refine q_iload_n dX9_tip_14 rfl rfl ?_
  refine q_aload_n dX9_tip_15 rfl rfl ?_
  refine q_callVd dX9_tip_16 wX9_tip_164 (n_allCoins hM hn hn8 hf hz) (hM) ⟨_, _, rfl⟩ rfl rfl (Nat.le_of_ble_eq_true rfl) ⟨⟨Nat.le_of_ble_eq_true rfl, Nat.le_of_ble_eq_true rfl⟩, Nat.le_of_ble_eq_true rfl, Nat.le_of_ble_eq_true rfl⟩ ?_
  refine q_icmp_le 25 dX9_tip_19 (by decide) (fun _ => ?_) (fun z => absurd (h4) z)
  refine q_iconst (v := 0) dX9_tip_25 rfl ?_
  refine q_istore_n dX9_tip_26 rfl (by decide) ?_
  exact key (t + 1) 0 _ _ _ (by omega) rfl rfl ⟨rfl, rfl, rfl, trivial⟩
theorem cB_up_le (hW : ∀ j, j < 10 → W j < 1000) : ∀ i, i ≤ 10 → cB W wUp i ≤ i * 1000 := by
  intro i
  induction i with
  | zero => intro _; exact Nat.le_refl _
  | succ i ih =>
    intro hi
    have h1 := ih (by omega)
    have h2 := hW i (by omega)
    show cB W wUp i + W (wUp i) ≤ _
    unfold wUp
    have : cB W wUp i = cB W wUp i := rfl
    unfold wUp at this h1
    omega
theorem n_out {A : Nat} (h1 : 1 ≤ t) (ht : t ≤ 30) (hk : k ≤ t) (hA : pAll f = nI A) (hA2 : A < 20000) (hA3 : t ≤ A) (hM : hat as h m (mo tc r z)) (hn : z 3 = nI n) (hn8 : n ≤ 8) (hf : hat as h (r 13) (aI Γ 240 f)) (hz : zro n f) (hW : ∀ j, j < 10 → pWt f j = nI (W j) ∧ W j < 1000) : Det Γ l mX9_out rX9_out [.ref m, .int (nI t), .int (nI k)] as h (some (.int (oS W k (A - (t - k)) 10))) h := by
  have hcB := cB_up_le (W := W) (fun j hj => (hW j hj).2)
  have key : ∀ (d i : Nat) (v3 v4 v5 : Int32) (ls : List (Nat × Value)), i + d = 10 → v3 = oS W k (A - (t - k)) i → v4 = nI (cB W wUp i) → v5 = nI i → lin ls [(0, .ref m), (1, .int (nI t)), (2, .int (nI k)), (3, .int v3), (4, .int v4), (5, .int v5)] → V Γ l mX9_out rX9_out (Zm Γ rX9_out (qD (some (.int (oS W k (A - (t - k)) 10))) as h)) 0 0 30 ls [] as h := by
    intro d
    induction d with
    | zero =>
      intro i v3 v4 v5 ls hi e3 e4 e5 hl
      subst e3 e4 e5
      refine V.at ?_ hl
      refine q_iload dX9_out_30 rfl ?_
      refine q_bipush (v := 10) dX9_out_32 rfl ?_
      refine q_icmp_ge 108 dX9_out_34 (by decide) (fun _ => ?_) (fun z => absurd (ge_c 10 rfl (by omega) (by omega)) z)
      refine q_iload_n dX9_out_108 rfl rfl ?_
      exact q_iret dX9_out_109 rfl (Nat.zero_le _) (Nat.zero_le _) (⟨by rw [show i = 10 by omega], rfl, rfl⟩)
    | succ d ih =>
      intro i v3 v4 v5 ls hi e3 e4 e5 hl
      subst e3 e4 e5
      have hWi := hW i (by omega)
      have hci := hcB i (by omega)
      have tail : ∀ b : Bool, (b = true ↔ cB W wUp i < k ∨ A - (t - k) < cB W wUp i + W i) → V Γ l mX9_out rX9_out (Zm Γ rX9_out (qD (some (.int (oS W k (A - (t - k)) 10))) as h)) 0 0 72 [(0, .ref m), (1, .int (nI t)), (2, .int (nI k)), (3, .int (oS W k (A - (t - k)) i)), (4, .int (nI (cB W wUp i))), (5, .int (nI i)), (6, .int (nI (W i)))] [.int (bI b)] as h := by
        intro b hb
        have st : ∀ v : Int32, oS W k (A - (t - k)) i ||| v = oS W k (A - (t - k)) (i + 1) → V Γ l mX9_out rX9_out (Zm Γ rX9_out (qD (some (.int (oS W k (A - (t - k)) 10))) as h)) 0 0 93 [(0, .ref m), (1, .int (nI t)), (2, .int (nI k)), (4, .int (nI (cB W wUp i))), (5, .int (nI i)), (6, .int (nI (W i)))] [.int v, .int (oS W k (A - (t - k)) i)] as h := by
          intro v hv
          refine q_ior dX9_out_93 ?_
          refine q_istore_n dX9_out_94 rfl (by decide) ?_
          refine q_iload dX9_out_95 rfl ?_
          refine q_iload dX9_out_97 rfl ?_
          refine q_iadd dX9_out_99 ?_
          refine q_istore dX9_out_100 (by decide) ?_
          refine q_iinc1 dX9_out_102 rfl (by decide) ?_
          refine q_goto 30 dX9_out_105 (by decide) ?_
          exact ih (i + 1) _ _ _ _ (by omega) hv (by rw [nI_add]; rfl) (nI_s i) ⟨rfl, rfl, rfl, rfl, rfl, rfl, trivial⟩
        refine q_istore dX9_out_72 (by decide) ?_
        refine q_iload_n dX9_out_74 rfl rfl ?_
        refine q_iload dX9_out_75 rfl ?_
        refine q_if_le 92 dX9_out_77 (by decide) (fun cA => ?_) (fun cA => ?_)
        · refine q_iconst (v := 0) dX9_out_92 rfl ?_
          refine V.at (st 0 ?_) ⟨rfl, rfl, rfl, rfl, rfl, rfl, trivial⟩
          rw [Int32.or_zero]
          simp only [oS]
          rw [if_neg]
          rintro ⟨q1, q2⟩
          first | exact q2 (hb.mp (bI_n.mp cB1)) | exact nI_nle q1 (by omega) cA
        · refine q_iload dX9_out_80 rfl ?_
          refine q_if_ne 92 dX9_out_82 (by decide) (fun cB1 => ?_) (fun cB1 => ?_)
          · refine q_iconst (v := 0) dX9_out_92 rfl ?_
            refine V.at (st 0 ?_) ⟨rfl, rfl, rfl, rfl, rfl, rfl, trivial⟩
            rw [Int32.or_zero]
            simp only [oS]
            rw [if_neg]
            rintro ⟨q1, q2⟩
            first | exact q2 (hb.mp (bI_n.mp cB1)) | exact nI_nle q1 (by omega) cA
          · refine q_iconst (v := 1) dX9_out_85 rfl ?_
            refine q_iload dX9_out_86 rfl ?_
            refine q_ishl dX9_out_88 ?_
            refine q_goto 93 dX9_out_89 (by decide) ?_
            refine V.at (st _ ?_) ⟨rfl, rfl, rfl, rfl, rfl, rfl, trivial⟩
            simp only [oS]
            rw [if_pos]
            exact ⟨Nat.pos_of_ne_zero (fun e => cA (by rw [e]; exact Int32.le_refl _)), fun q => absurd (hb.mpr q) (by rw [bI_0.mp cB1]; decide)⟩
      refine V.at ?_ hl
      refine q_iload dX9_out_30 rfl ?_
      refine q_bipush (v := 10) dX9_out_32 rfl ?_
      refine q_icmp_ge 108 dX9_out_34 (by decide) (fun z => absurd z (lt_c 10 rfl (by omega) (by omega))) (fun _ => ?_)
      refine q_aload_n dX9_out_37 rfl rfl ?_
      refine q_iload dX9_out_38 rfl ?_
      refine q_callVd dX9_out_40 wX9_out_131 (n_ofAll (show i < 10 by omega) hM hn hn8 hf hz) (hM) ⟨_, _, rfl⟩ rfl rfl (Nat.le_of_ble_eq_true rfl) ⟨⟨Nat.le_of_ble_eq_true rfl, Nat.le_of_ble_eq_true rfl⟩, Nat.le_of_ble_eq_true rfl, Nat.le_of_ble_eq_true rfl⟩ ?_
      rw [hWi.1]
      refine q_istore dX9_out_43 (by decide) ?_
      refine q_iload dX9_out_45 rfl ?_
      refine q_iload_n dX9_out_47 rfl rfl ?_
      refine q_icmp_lt 67 dX9_out_48 (by decide) (fun cA => ?_) (fun cA => ?_)
      · refine q_iconst (v := 1) dX9_out_67 rfl ?_
        refine q_goto 72 dX9_out_68 (by decide) ?_
        refine V.at (tail true ⟨fun _ => ?_, fun _ => rfl⟩) ⟨rfl, rfl, rfl, rfl, rfl, rfl, rfl, trivial⟩
        first | exact Or.inr (Nat.lt_of_not_le (fun q => cB1 (nI_le q (by omega)))) | exact Or.inl ((nI_ltI (by omega) (by omega)).mp cA)
      · refine q_iload dX9_out_51 rfl ?_
        refine q_iload dX9_out_53 rfl ?_
        refine q_iadd dX9_out_55 ?_
        refine q_aload_n dX9_out_56 rfl rfl ?_
        rw [nI_add]
        refine q_callVd dX9_out_57 wX9_out_164 (n_allCoins hM hn hn8 hf hz) (hM) ⟨_, _, rfl⟩ rfl rfl (Nat.le_of_ble_eq_true rfl) ⟨⟨Nat.le_of_ble_eq_true rfl, Nat.le_of_ble_eq_true rfl⟩, Nat.le_of_ble_eq_true rfl, Nat.le_of_ble_eq_true rfl⟩ ?_
        refine q_iload_n dX9_out_60 rfl rfl ?_
        refine q_iload_n dX9_out_61 rfl rfl ?_
        refine q_isub dX9_out_62 ?_
        refine q_isub dX9_out_63 ?_
        rw [hA, pk_sub hk, pk_sub (by omega)]
        refine q_icmp_le 71 dX9_out_64 (by decide) (fun cB1 => ?_) (fun cB1 => ?_)
        · refine q_iconst (v := 0) dX9_out_71 rfl ?_
          refine V.at (tail false ⟨fun q => absurd q (by decide), fun q => ?_⟩) ⟨rfl, rfl, rfl, rfl, rfl, rfl, rfl, trivial⟩
          rcases q with q | q
          · exact absurd (nI_lt q (by omega)) cA
          · exact absurd ((nI_leI (by omega) (by omega)).mp cB1) (by omega)
        · refine q_iconst (v := 1) dX9_out_67 rfl ?_
          refine q_goto 72 dX9_out_68 (by decide) ?_
          refine V.at (tail true ⟨fun _ => ?_, fun _ => rfl⟩) ⟨rfl, rfl, rfl, rfl, rfl, rfl, rfl, trivial⟩
          first | exact Or.inr (Nat.lt_of_not_le (fun q => cB1 (nI_le q (by omega)))) | exact Or.inl ((nI_ltI (by omega) (by omega)).mp cA)
  refine Con.of (by decide +kernel) rfl rfl (Nat.le_of_ble_eq_true rfl) ?_
  refine q_aload_n dX9_out_0 rfl rfl ?_
  refine q_iload_n dX9_out_1 rfl rfl ?_
  refine q_iload_n dX9_out_2 rfl rfl ?_
  refine q_callVd dX9_out_3 wX9_out_160 (n_isDay hM) (hM) ⟨_, _, rfl⟩ rfl rfl (Nat.le_of_ble_eq_true rfl) ⟨⟨Nat.le_of_ble_eq_true rfl, Nat.le_of_ble_eq_true rfl⟩, Nat.le_of_ble_eq_true rfl, Nat.le_of_ble_eq_true rfl⟩ ?_
  refine q_if_ne 11 dX9_out_6 (by decide) (fun _ => ?_) (fun z => absurd z (by rw [isD_nI h1 ht hk]; decide))
  refine q_iload_n dX9_out_11 rfl rfl ?_
  refine q_aload_n dX9_out_12 rfl rfl ?_
  refine q_callVd dX9_out_13 wX9_out_164 (n_allCoins hM hn hn8 hf hz) (hM) ⟨_, _, rfl⟩ rfl rfl (Nat.le_of_ble_eq_true rfl) ⟨⟨Nat.le_of_ble_eq_true rfl, Nat.le_of_ble_eq_true rfl⟩, Nat.le_of_ble_eq_true rfl, Nat.le_of_ble_eq_true rfl⟩ ?_
  refine q_icmp_le 22 dX9_out_16 (by decide) (fun _ => ?_) (fun z => absurd (by rw [hA]; exact nI_le hA3 (by omega)) z)
  refine q_iconst (v := 0) dX9_out_22 rfl ?_
  refine q_istore_n dX9_out_23 rfl (by decide) ?_
  refine q_iconst (v := 0) dX9_out_24 rfl ?_
  refine q_istore dX9_out_25 (by decide) ?_
  refine q_iconst (v := 0) dX9_out_27 rfl ?_
  refine q_istore dX9_out_28 (by decide) ?_
  exact key 10 0 _ _ _ _ (by omega) rfl rfl rfl ⟨rfl, rfl, rfl, rfl, rfl, rfl, trivial⟩
theorem n_gain_tale {b : Int32} (h1 : 1 ≤ t) (ht : t ≤ 30) (hk : k ≤ t) (h4 : nI t ≤ pAll f) (hb : isUL b = true) (hg : gG W wDn (t - k) 10 < 1000) (hM : hat as h m (mo tc r z)) (hn : z 3 = nI n) (hn8 : n ≤ 8) (hf : hat as h (r 13) (aI Γ 240 f)) (hz : zro n f) (hW : ∀ j, j < 10 → pWt f j = nI (W j) ∧ W j < 1000) : Det Γ l mX9_gain rX9_gain [.ref m, .int (nI t), .int (nI k), .int 0, .int b] as h (some (.long (if k = t then -1000000000000000000 else (if b = 0 then lN (10 * gG W wDn (t - k) 10) else lN (10 * (t - k))) / lN (Nat.gcd (10 * gG W wDn (t - k) 10) (10 * (t - k)))))) h := by
  refine Con.of (by decide +kernel) rfl rfl (Nat.le_of_ble_eq_true rfl) ?_
  refine q_aload_n dX9_gain_0 rfl rfl ?_
  refine q_iload_n dX9_gain_1 rfl rfl ?_
  refine q_iload_n dX9_gain_2 rfl rfl ?_
  refine q_callVd dX9_gain_3 wX9_gain_160 (n_isDay hM) (hM) ⟨_, _, rfl⟩ rfl rfl (Nat.le_of_ble_eq_true rfl) ⟨⟨Nat.le_of_ble_eq_true rfl, Nat.le_of_ble_eq_true rfl⟩, Nat.le_of_ble_eq_true rfl, Nat.le_of_ble_eq_true rfl⟩ ?_
  refine q_if_eq 38 dX9_gain_6 (by decide) (fun z => absurd z (by rw [isD_nI h1 ht hk]; decide)) (fun _ => ?_)
  refine q_iload_n dX9_gain_9 rfl rfl ?_
  refine q_i2l dX9_gain_10 ?_
  refine q_lconst (v := 0) dX9_gain_11 rfl ?_
  refine q_lconst (v := 1) dX9_gain_12 rfl ?_
  refine q_callSd dX9_gain_13 wX9_gain_60 (n_in) rfl rfl (Nat.le_of_ble_eq_true rfl) ⟨⟨Nat.le_of_ble_eq_true rfl, Nat.le_of_ble_eq_true rfl⟩, Nat.le_of_ble_eq_true rfl, Nat.le_of_ble_eq_true rfl⟩ ?_
  refine q_if_eq 38 dX9_gain_16 (by decide) (fun z => absurd z (by decide)) (fun _ => ?_)
  refine q_iload dX9_gain_19 rfl ?_
  refine q_i2l dX9_gain_21 ?_
  refine q_lconst (v := 0) dX9_gain_22 rfl ?_
  refine q_lconst (v := 1) dX9_gain_23 rfl ?_
  refine q_callSd dX9_gain_24 wX9_gain_60 (n_in) rfl rfl (Nat.le_of_ble_eq_true rfl) ⟨⟨Nat.le_of_ble_eq_true rfl, Nat.le_of_ble_eq_true rfl⟩, Nat.le_of_ble_eq_true rfl, Nat.le_of_ble_eq_true rfl⟩ ?_
  refine q_if_eq 38 dX9_gain_27 (by decide) (fun z => absurd z (by rw [inB_UL, hb]; decide)) (fun _ => ?_)
  refine q_iload_n dX9_gain_30 rfl rfl ?_
  refine q_aload_n dX9_gain_31 rfl rfl ?_
  refine q_callVd dX9_gain_32 wX9_gain_164 (n_allCoins hM hn hn8 hf hz) (hM) ⟨_, _, rfl⟩ rfl rfl (Nat.le_of_ble_eq_true rfl) ⟨⟨Nat.le_of_ble_eq_true rfl, Nat.le_of_ble_eq_true rfl⟩, Nat.le_of_ble_eq_true rfl, Nat.le_of_ble_eq_true rfl⟩ ?_
  refine q_icmp_le 42 dX9_gain_35 (by decide) (fun _ => ?_) (fun z => absurd (h4) z)
  refine q_iload_n dX9_gain_42 rfl rfl ?_
  refine q_if_ne 52 dX9_gain_43 (by decide) (fun z => absurd (rfl) z) (fun _ => ?_)
  refine q_iload_n dX9_gain_46 rfl rfl ?_
  refine q_iload_n dX9_gain_47 rfl rfl ?_
  refine q_isub dX9_gain_48 ?_
  refine q_goto 53 dX9_gain_49 (by decide) ?_
  rw [pk_sub hk]
  refine q_istore dX9_gain_53 (by decide) ?_
  refine q_iload dX9_gain_55 rfl ?_
  refine q_if_ne 66 dX9_gain_57 (by decide) (fun cA => ?_) (fun cA => ?_)
  · have hne : ¬ k = t := fun e => cA (by rw [e, Nat.sub_self]; rfl)
    rw [if_neg hne]
    refine q_iload_n dX9_gain_66 rfl rfl ?_
    refine q_if_ne 80 dX9_gain_67 (by decide) (fun z => absurd (rfl) z) (fun _ => ?_)
    refine q_aload_n dX9_gain_70 rfl rfl ?_
    refine q_iload_n dX9_gain_71 rfl rfl ?_
    refine q_iload_n dX9_gain_72 rfl rfl ?_
    refine q_callVd dX9_gain_73 wX9_gain_169 (n_taleUp (W := W) (by omega) hk hM hn hn8 hf hz hW) (hM) ⟨_, _, rfl⟩ rfl rfl (Nat.le_of_ble_eq_true rfl) ⟨⟨Nat.le_of_ble_eq_true rfl, Nat.le_of_ble_eq_true rfl⟩, Nat.le_of_ble_eq_true rfl, Nat.le_of_ble_eq_true rfl⟩ ?_
    refine q_i2l dX9_gain_76 ?_
    refine q_goto 86 dX9_gain_77 (by decide) ?_
    refine q_ldc2 (v := 10) dX9_gain_86 (by decide +kernel) ?_
    refine q_iload dX9_gain_89 rfl ?_
    refine q_i2l dX9_gain_91 ?_
    refine q_lmul dX9_gain_92 ?_
    refine q_iload dX9_gain_93 rfl ?_
    rw [show (tlU W t k).toInt64 = lN (10 * gG W wDn (t - k) 10) by unfold tlU; rw [show (10 : Int32) = nI 10 from rfl, pk_mul, nI_l (by omega)], nI_l (by omega), show (10 : Int64) * lN (t - k) = lN (10 * (t - k)) from lN_mul 10 (t - k)]
    refine q_callSd dX9_gain_95 wX9_gain_178 (n_inLeast (a := 10 * gG W wDn (t - k) 10) (b := 10 * (t - k)) (by by_cases q : 0 < lN (10 * gG W wDn (t - k) 10); rw [if_pos q]; rw [if_neg q]; have : 10 * gG W wDn (t - k) 10 = 0 := Nat.eq_zero_of_not_pos (fun e => q ((pk_lLT (a := 0) (by omega) (by omega)).mpr e)); rw [this]; rfl) (by omega) (by omega) (by omega)) rfl rfl (Nat.le_of_ble_eq_true rfl) ⟨⟨Nat.le_of_ble_eq_true rfl, Nat.le_of_ble_eq_true rfl⟩, Nat.le_of_ble_eq_true rfl, Nat.le_of_ble_eq_true rfl⟩ ?_
    exact q_lret dX9_gain_98 rfl (Nat.zero_le _) (Nat.zero_le _) (⟨rfl, rfl, rfl⟩)
  · rw [if_pos (show k = t by have := (nI_eq (b := 0) (by omega) (by omega)).mp cA; omega)]
    refine q_ldc2 (v := (-1000000000000000000)) dX9_gain_60 (by decide +kernel) ?_
    refine q_goto 98 dX9_gain_63 (by decide) ?_
    exact q_lret dX9_gain_98 rfl (Nat.zero_le _) (Nat.zero_le _) (⟨rfl, rfl, rfl⟩)
theorem n_gain_look {b : Int32} {g : Nat} (h1 : 1 ≤ t) (ht : t ≤ 30) (hk : k ≤ t) (h4 : nI t ≤ pAll f) (hb : isUL b = true) (hg : (if 0 < (lkU W (u 1) k).toInt64 then (lkU W (u 1) k).toInt64 else -(lkU W (u 1) k).toInt64) = lN g) (hg2 : g < 2 ^ 31) (hM : hat as h m (mo tc r z)) (hn : z 3 = nI n) (hn8 : n ≤ 8) (hf : hat as h (r 13) (aI Γ 240 f)) (hz : zro n f) (hW : ∀ j, j < 10 → pWt f j = nI (W j) ∧ W j < 1000) (hu : hat as h (r 17) (aI Γ 6 u)) : Det Γ l mX9_gain rX9_gain [.ref m, .int (nI t), .int (nI k), .int 1, .int b] as h (some (.long (if k = 0 then -1000000000000000000 else (if b = 0 then (lkU W (u 1) k).toInt64 else lN (10 * k)) / lN (Nat.gcd g (10 * k))))) h := by
  refine Con.of (by decide +kernel) rfl rfl (Nat.le_of_ble_eq_true rfl) ?_
  refine q_aload_n dX9_gain_0 rfl rfl ?_
  refine q_iload_n dX9_gain_1 rfl rfl ?_
  refine q_iload_n dX9_gain_2 rfl rfl ?_
  refine q_callVd dX9_gain_3 wX9_gain_160 (n_isDay hM) (hM) ⟨_, _, rfl⟩ rfl rfl (Nat.le_of_ble_eq_true rfl) ⟨⟨Nat.le_of_ble_eq_true rfl, Nat.le_of_ble_eq_true rfl⟩, Nat.le_of_ble_eq_true rfl, Nat.le_of_ble_eq_true rfl⟩ ?_
  refine q_if_eq 38 dX9_gain_6 (by decide) (fun z => absurd z (by rw [isD_nI h1 ht hk]; decide)) (fun _ => ?_)
  refine q_iload_n dX9_gain_9 rfl rfl ?_
  refine q_i2l dX9_gain_10 ?_
  refine q_lconst (v := 0) dX9_gain_11 rfl ?_
  refine q_lconst (v := 1) dX9_gain_12 rfl ?_
  refine q_callSd dX9_gain_13 wX9_gain_60 (n_in) rfl rfl (Nat.le_of_ble_eq_true rfl) ⟨⟨Nat.le_of_ble_eq_true rfl, Nat.le_of_ble_eq_true rfl⟩, Nat.le_of_ble_eq_true rfl, Nat.le_of_ble_eq_true rfl⟩ ?_
  refine q_if_eq 38 dX9_gain_16 (by decide) (fun z => absurd z (by decide)) (fun _ => ?_)
  refine q_iload dX9_gain_19 rfl ?_
  refine q_i2l dX9_gain_21 ?_
  refine q_lconst (v := 0) dX9_gain_22 rfl ?_
  refine q_lconst (v := 1) dX9_gain_23 rfl ?_
  refine q_callSd dX9_gain_24 wX9_gain_60 (n_in) rfl rfl (Nat.le_of_ble_eq_true rfl) ⟨⟨Nat.le_of_ble_eq_true rfl, Nat.le_of_ble_eq_true rfl⟩, Nat.le_of_ble_eq_true rfl, Nat.le_of_ble_eq_true rfl⟩ ?_
  refine q_if_eq 38 dX9_gain_27 (by decide) (fun z => absurd z (by rw [inB_UL, hb]; decide)) (fun _ => ?_)
  refine q_iload_n dX9_gain_30 rfl rfl ?_
  refine q_aload_n dX9_gain_31 rfl rfl ?_
  refine q_callVd dX9_gain_32 wX9_gain_164 (n_allCoins hM hn hn8 hf hz) (hM) ⟨_, _, rfl⟩ rfl rfl (Nat.le_of_ble_eq_true rfl) ⟨⟨Nat.le_of_ble_eq_true rfl, Nat.le_of_ble_eq_true rfl⟩, Nat.le_of_ble_eq_true rfl, Nat.le_of_ble_eq_true rfl⟩ ?_
  refine q_icmp_le 42 dX9_gain_35 (by decide) (fun _ => ?_) (fun z => absurd (h4) z)
  refine q_iload_n dX9_gain_42 rfl rfl ?_
  refine q_if_ne 52 dX9_gain_43 (by decide) (fun _ => ?_) (fun z => absurd z ((by decide)))
  refine q_iload_n dX9_gain_52 rfl rfl ?_
  refine q_istore dX9_gain_53 (by decide) ?_
  refine q_iload dX9_gain_55 rfl ?_
  refine q_if_ne 66 dX9_gain_57 (by decide) (fun cA => ?_) (fun cA => ?_)
  · have hne : ¬ k = 0 := fun e => cA (by rw [e]; rfl)
    rw [if_neg hne]
    refine q_iload_n dX9_gain_66 rfl rfl ?_
    refine q_if_ne 80 dX9_gain_67 (by decide) (fun _ => ?_) (fun z => absurd z ((by decide)))
    refine q_aload_n dX9_gain_80 rfl rfl ?_
    refine q_iload_n dX9_gain_81 rfl rfl ?_
    refine q_callVd dX9_gain_82 wX9_gain_173 (n_lookUp (W := W) (by omega) hM hn hn8 hf hz hW hu) (hM) ⟨_, _, rfl⟩ rfl rfl (Nat.le_of_ble_eq_true rfl) ⟨⟨Nat.le_of_ble_eq_true rfl, Nat.le_of_ble_eq_true rfl⟩, Nat.le_of_ble_eq_true rfl, Nat.le_of_ble_eq_true rfl⟩ ?_
    refine q_i2l dX9_gain_85 ?_
    refine q_ldc2 (v := 10) dX9_gain_86 (by decide +kernel) ?_
    refine q_iload dX9_gain_89 rfl ?_
    refine q_i2l dX9_gain_91 ?_
    refine q_lmul dX9_gain_92 ?_
    refine q_iload dX9_gain_93 rfl ?_
    rw [nI_l (by omega), show (10 : Int64) * lN k = lN (10 * k) from lN_mul 10 k]
    refine q_callSd dX9_gain_95 wX9_gain_178 (n_inLeast (a := g) (b := 10 * k) hg (by omega) (by omega) (by omega)) rfl rfl (Nat.le_of_ble_eq_true rfl) ⟨⟨Nat.le_of_ble_eq_true rfl, Nat.le_of_ble_eq_true rfl⟩, Nat.le_of_ble_eq_true rfl, Nat.le_of_ble_eq_true rfl⟩ ?_
    exact q_lret dX9_gain_98 rfl (Nat.zero_le _) (Nat.zero_le _) (⟨rfl, rfl, rfl⟩)
  · rw [if_pos ((nI_eq (b := 0) (by omega) (by omega)).mp cA)]
    refine q_ldc2 (v := (-1000000000000000000)) dX9_gain_60 (by decide +kernel) ?_
    refine q_goto 98 dX9_gain_63 (by decide) ?_
    exact q_lret dX9_gain_98 rfl (Nat.zero_le _) (Nat.zero_le _) (⟨rfl, rfl, rfl⟩)
end

