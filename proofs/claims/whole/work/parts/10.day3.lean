/-! DAY (X0): up, down, rests, goes, tip, out -/
theorem bI_0 {b : Bool} : bI b = 0 ↔ b = false := by cases b <;> decide
theorem bI_n {b : Bool} : ¬ bI b = 0 ↔ b = true := by cases b <;> decide
section
variable {Γ : gT} {l : Launch} {as : List Nat} {h : aH} {q a b c n : Nat} {fw f hv lt : Nat → Int32} {L : Int32} {W wt : Nat → Nat} {k : Nat}
theorem c_goesUp (hq : hat as h q (ob 0 [.ref a, .ref b, .ref c, .int (nI n), .int L])) (hb : hat as h b (aI Γ 31 hv)) (hc : hat as h c (aI Γ 31 lt)) (hn : n ≤ 30) (hk : k ≤ n) : Det Γ l mX0_goesUp rX0_goesUp [.ref q, .int (nI k)] as h (some (.int (bI (dUp hv lt n L k)))) h := by
  refine Con.of (by decide +kernel) rfl rfl (Nat.le_of_ble_eq_true rfl) ?_
  refine q_iload_n dX0_goesUp_0 rfl rfl ?_
  refine q_aload_n dX0_goesUp_1 rfl rfl ?_
  refine q_get dX0_goesUp_2 fX0_goesUp_21 (hq) rfl ?_
  refine q_icmp_ge 22 dX0_goesUp_5 (by decide) (fun cA => ?_) (fun cA => ?_)
  · have e : dUp hv lt n L k = false := by
      unfold dUp
      rw [Bool.and_eq_false_iff, decide_eq_false_iff_not, decide_eq_false_iff_not]
      first | exact Or.inr (Int64.not_lt.mpr ((lg_cmp_le _ _).mp cB)) | exact Or.inl (Nat.not_lt.mpr ((nI_leI (by omega) (by omega)).mp cA))
    rw [e]
    refine q_iconst (v := 0) dX0_goesUp_22 rfl ?_
    exact q_zret dX0_goesUp_23 rfl (rfl) (Nat.zero_le _) (Nat.zero_le _) (⟨rfl, rfl, rfl⟩)
  · have hkn : k < n := Nat.lt_of_not_le (fun z => cA (nI_le z (by omega)))
    refine q_aload_n dX0_goesUp_8 rfl rfl ?_
    refine q_iload_n dX0_goesUp_9 rfl rfl ?_
    refine q_callVd dX0_goesUp_10 wX0_goesUp_50 (c_lookOverTale hq hb hc hn hkn) (hq) ⟨_, _, rfl⟩ rfl rfl (Nat.le_of_ble_eq_true rfl) ⟨⟨Nat.le_of_ble_eq_true rfl, Nat.le_of_ble_eq_true rfl⟩, Nat.le_of_ble_eq_true rfl, Nat.le_of_ble_eq_true rfl⟩ ?_
    refine q_lconst (v := 0) dX0_goesUp_13 rfl ?_
    refine q_lcmp dX0_goesUp_14 ?_
    refine q_if_le 22 dX0_goesUp_15 (by decide) (fun cB => ?_) (fun cB => ?_)
    · have e : dUp hv lt n L k = false := by
        unfold dUp
        rw [Bool.and_eq_false_iff, decide_eq_false_iff_not, decide_eq_false_iff_not]
        first | exact Or.inr (Int64.not_lt.mpr ((lg_cmp_le _ _).mp cB)) | exact Or.inl (Nat.not_lt.mpr ((nI_leI (by omega) (by omega)).mp cA))
      rw [e]
      refine q_iconst (v := 0) dX0_goesUp_22 rfl ?_
      exact q_zret dX0_goesUp_23 rfl (rfl) (Nat.zero_le _) (Nat.zero_le _) (⟨rfl, rfl, rfl⟩)
    · have e : dUp hv lt n L k = true := by
        unfold dUp
        rw [Bool.and_eq_true, decide_eq_true_eq, decide_eq_true_eq]
        exact ⟨hkn, Int64.not_le.mp (fun z => cB ((lg_cmp_le _ _).mpr z))⟩
      rw [e]
      refine q_iconst (v := 1) dX0_goesUp_18 rfl ?_
      refine q_goto 23 dX0_goesUp_19 (by decide) ?_
      exact q_zret dX0_goesUp_23 rfl (rfl) (Nat.zero_le _) (Nat.zero_le _) (⟨rfl, rfl, rfl⟩)
theorem c_goesDown (hq : hat as h q (ob 0 [.ref a, .ref b, .ref c, .int (nI n), .int L])) (hb : hat as h b (aI Γ 31 hv)) (hc : hat as h c (aI Γ 31 lt)) (hn : n ≤ 30) (hk : k ≤ n) : Det Γ l mX0_goesDown rX0_goesDown [.ref q, .int (nI k)] as h (some (.int (bI (dDn hv lt n L k)))) h := by
  refine Con.of (by decide +kernel) rfl rfl (Nat.le_of_ble_eq_true rfl) ?_
  refine q_iload_n dX0_goesDown_0 rfl rfl ?_
  refine q_if_le 20 dX0_goesDown_1 (by decide) (fun cA => ?_) (fun cA => ?_)
  · have e : dDn hv lt n L k = false := by
      unfold dDn
      rw [Bool.and_eq_false_iff, decide_eq_false_iff_not, decide_eq_false_iff_not]
      first | exact Or.inr (Int64.not_lt.mpr ((lg_cmp_ge _ _).mp cB)) | exact Or.inl (fun z => nI_nle z (by omega) cA)
    rw [e]
    refine q_iconst (v := 0) dX0_goesDown_20 rfl ?_
    exact q_zret dX0_goesDown_21 rfl (rfl) (Nat.zero_le _) (Nat.zero_le _) (⟨rfl, rfl, rfl⟩)
  · have hk0 : 0 < k := Nat.pos_of_ne_zero (fun z => cA (by rw [z]; exact Int32.le_refl _))
    refine q_aload_n dX0_goesDown_4 rfl rfl ?_
    refine q_iload_n dX0_goesDown_5 rfl rfl ?_
    refine q_iconst (v := 1) dX0_goesDown_6 rfl ?_
    refine q_isub dX0_goesDown_7 ?_
    rw [show nI k - 1 = nI (k - 1) from pk_sub (a := k) (b := 1) hk0]
    refine q_callVd dX0_goesDown_8 wX0_goesDown_50 (c_lookOverTale hq hb hc hn (show k - 1 < n by omega)) (hq) ⟨_, _, rfl⟩ rfl rfl (Nat.le_of_ble_eq_true rfl) ⟨⟨Nat.le_of_ble_eq_true rfl, Nat.le_of_ble_eq_true rfl⟩, Nat.le_of_ble_eq_true rfl, Nat.le_of_ble_eq_true rfl⟩ ?_
    refine q_lconst (v := 0) dX0_goesDown_11 rfl ?_
    refine q_lcmp dX0_goesDown_12 ?_
    refine q_if_ge 20 dX0_goesDown_13 (by decide) (fun cB => ?_) (fun cB => ?_)
    · have e : dDn hv lt n L k = false := by
        unfold dDn
        rw [Bool.and_eq_false_iff, decide_eq_false_iff_not, decide_eq_false_iff_not]
        first | exact Or.inr (Int64.not_lt.mpr ((lg_cmp_ge _ _).mp cB)) | exact Or.inl (fun z => nI_nle z (by omega) cA)
      rw [e]
      refine q_iconst (v := 0) dX0_goesDown_20 rfl ?_
      exact q_zret dX0_goesDown_21 rfl (rfl) (Nat.zero_le _) (Nat.zero_le _) (⟨rfl, rfl, rfl⟩)
    · have e : dDn hv lt n L k = true := by
        unfold dDn
        rw [Bool.and_eq_true, decide_eq_true_eq, decide_eq_true_eq]
        exact ⟨hk0, Int64.not_le.mp (fun z => cB ((lg_cmp_ge _ _).mpr z))⟩
      rw [e]
      refine q_iconst (v := 1) dX0_goesDown_16 rfl ?_
      refine q_goto 21 dX0_goesDown_17 (by decide) ?_
      exact q_zret dX0_goesDown_21 rfl (rfl) (Nat.zero_le _) (Nat.zero_le _) (⟨rfl, rfl, rfl⟩)
theorem rest_loop (hq : hat as h q (ob 0 [.ref a, .ref b, .ref c, .int (nI n), .int L])) (hb : hat as h b (aI Γ 31 hv)) (hc : hat as h c (aI Γ 31 lt)) (hn : n ≤ 30) : ∀ (d k : Nat) (x y : Int32) (ls : List (Nat × Value)), k + d = n + 1 → x = rsS (dUp hv lt n L) (dDn hv lt n L) k → y = nI k → lin ls [(0, .ref q), (1, .int x), (2, .int y)] → V Γ l mX0_allThatRest rX0_allThatRest (Zm Γ rX0_allThatRest (qD (some (.int (rsS (dUp hv lt n L) (dDn hv lt n L) (n + 1)))) as h)) 0 0 4 ls [] as h := by
  intro d
  induction d with
  | zero =>
    intro k x y ls hk hx hy hl
    subst hx hy
    refine V.at ?_ hl
    refine q_iload_n dX0_allThatRest_4 rfl rfl ?_
    refine q_aload_n dX0_allThatRest_5 rfl rfl ?_
    refine q_get dX0_allThatRest_6 fX0_allThatRest_21 (hq) rfl ?_
    refine q_icmp_gt 40 dX0_allThatRest_9 (by decide) (fun _ => ?_) (fun z => absurd (nI_lt (by omega) (by omega)) z)
    refine q_iload_n dX0_allThatRest_40 rfl rfl ?_
    exact q_iret dX0_allThatRest_41 rfl (Nat.zero_le _) (Nat.zero_le _) (⟨by rw [show k = n + 1 by omega], rfl, rfl⟩)
  | succ d ih =>
    intro k x y ls hk hx hy hl
    subst hx hy
    refine V.at ?_ hl
    refine q_iload_n dX0_allThatRest_4 rfl rfl ?_
    refine q_aload_n dX0_allThatRest_5 rfl rfl ?_
    refine q_get dX0_allThatRest_6 fX0_allThatRest_21 (hq) rfl ?_
    refine q_icmp_gt 40 dX0_allThatRest_9 (by decide) (fun z => absurd z (nI_nlt (by omega) (by omega))) (fun _ => ?_)
    refine q_aload_n dX0_allThatRest_12 rfl rfl ?_
    refine q_iload_n dX0_allThatRest_13 rfl rfl ?_
    refine q_callVd dX0_allThatRest_14 wX0_allThatRest_53 (c_goesUp hq hb hc hn (show k ≤ n by omega)) (hq) ⟨_, _, rfl⟩ rfl rfl (Nat.le_of_ble_eq_true rfl) ⟨⟨Nat.le_of_ble_eq_true rfl, Nat.le_of_ble_eq_true rfl⟩, Nat.le_of_ble_eq_true rfl, Nat.le_of_ble_eq_true rfl⟩ ?_
    refine q_if_ne 34 dX0_allThatRest_17 (by decide) (fun cA => ?_) (fun cA => ?_)
    · refine q_iinc1 dX0_allThatRest_34 rfl (by decide) ?_
      refine q_goto 4 dX0_allThatRest_37 (by decide) ?_
      exact ih (k + 1) _ _ _ (by omega) (by simp only [rsS]; first | rw [if_neg (by rw [bI_0.mp cA, bI_0.mp cB]; decide)] | rw [if_pos (by rw [bI_n.mp cB, Bool.or_true])] | rw [if_pos (by rw [bI_n.mp cA, Bool.true_or])]) (nI_s k) ⟨rfl, rfl, rfl, trivial⟩
    · refine q_aload_n dX0_allThatRest_20 rfl rfl ?_
      refine q_iload_n dX0_allThatRest_21 rfl rfl ?_
      refine q_callVd dX0_allThatRest_22 wX0_allThatRest_57 (c_goesDown hq hb hc hn (show k ≤ n by omega)) (hq) ⟨_, _, rfl⟩ rfl rfl (Nat.le_of_ble_eq_true rfl) ⟨⟨Nat.le_of_ble_eq_true rfl, Nat.le_of_ble_eq_true rfl⟩, Nat.le_of_ble_eq_true rfl, Nat.le_of_ble_eq_true rfl⟩ ?_
      refine q_if_ne 34 dX0_allThatRest_25 (by decide) (fun cB => ?_) (fun cB => ?_)
      · refine q_iinc1 dX0_allThatRest_34 rfl (by decide) ?_
        refine q_goto 4 dX0_allThatRest_37 (by decide) ?_
        exact ih (k + 1) _ _ _ (by omega) (by simp only [rsS]; first | rw [if_neg (by rw [bI_0.mp cA, bI_0.mp cB]; decide)] | rw [if_pos (by rw [bI_n.mp cB, Bool.or_true])] | rw [if_pos (by rw [bI_n.mp cA, Bool.true_or])]) (nI_s k) ⟨rfl, rfl, rfl, trivial⟩
      · refine q_iload_n dX0_allThatRest_28 rfl rfl ?_
        refine q_iconst (v := 1) dX0_allThatRest_29 rfl ?_
        refine q_iload_n dX0_allThatRest_30 rfl rfl ?_
        refine q_ishl dX0_allThatRest_31 ?_
        refine q_ior dX0_allThatRest_32 ?_
        refine q_istore_n dX0_allThatRest_33 rfl (by decide) ?_
        refine q_iinc1 dX0_allThatRest_34 rfl (by decide) ?_
        refine q_goto 4 dX0_allThatRest_37 (by decide) ?_
        exact ih (k + 1) _ _ _ (by omega) (by simp only [rsS]; first | rw [if_neg (by rw [bI_0.mp cA, bI_0.mp cB]; decide)] | rw [if_pos (by rw [bI_n.mp cB, Bool.or_true])] | rw [if_pos (by rw [bI_n.mp cA, Bool.true_or])]) (nI_s k) ⟨rfl, rfl, rfl, trivial⟩
theorem c_allThatRest (hq : hat as h q (ob 0 [.ref a, .ref b, .ref c, .int (nI n), .int L])) (hb : hat as h b (aI Γ 31 hv)) (hc : hat as h c (aI Γ 31 lt)) (hn : n ≤ 30) : Det Γ l mX0_allThatRest rX0_allThatRest [.ref q] as h (some (.int (rsS (dUp hv lt n L) (dDn hv lt n L) (n + 1)))) h := by
  refine Con.of (by decide +kernel) rfl rfl (Nat.le_of_ble_eq_true rfl) ?_
  refine q_iconst (v := 0) dX0_allThatRest_0 rfl ?_
  refine q_istore_n dX0_allThatRest_1 rfl (by decide) ?_
  refine q_iconst (v := 0) dX0_allThatRest_2 rfl ?_
  refine q_istore_n dX0_allThatRest_3 rfl (by decide) ?_
  exact rest_loop hq hb hc hn (n + 1) 0 _ _ _ (by omega) rfl rfl ⟨rfl, rfl, rfl, trivial⟩
theorem dUp_lt (h : dUp hv lt n L k = true) : k < n := by
  unfold dUp at h
  rw [Bool.and_eq_true, decide_eq_true_eq] at h
  exact h.1
theorem dDn_pos (h : dDn hv lt n L k = true) : 0 < k := by
  unfold dDn at h
  rw [Bool.and_eq_true, decide_eq_true_eq] at h
  exact h.1
theorem end_loop (hq : hat as h q (ob 0 [.ref a, .ref b, .ref c, .int (nI n), .int L])) (hb : hat as h b (aI Γ 31 hv)) (hc : hat as h c (aI Γ 31 lt)) (hn : n ≤ 30) {v1 : Int32} {r0 : Nat} : ∀ (d i k : Nat) (x y : Int32) (ls : List (Nat × Value)), i + d = n → k ≤ n → r0 = enS (dUp hv lt n L) (dDn hv lt n L) d k → x = nI k → y = nI i → lin ls [(0, .ref q), (1, .int v1), (2, .int x), (3, .int y)] → V Γ l mX0_endFrom rX0_endFrom (Zm Γ rX0_endFrom (qD (some (.int (nI r0))) as h)) 0 0 4 ls [] as h := by
  intro d
  induction d with
  | zero =>
    intro i k x y ls hi hk hr hx hy hl
    subst hx hy hr
    refine V.at ?_ hl
    refine q_iload_n dX0_endFrom_4 rfl rfl ?_
    refine q_aload_n dX0_endFrom_5 rfl rfl ?_
    refine q_get dX0_endFrom_6 fX0_endFrom_21 (hq) rfl ?_
    refine q_icmp_ge 43 dX0_endFrom_9 (by decide) (fun _ => ?_) (fun z => absurd (nI_le (by omega) (by omega)) z)
    refine q_iload_n dX0_endFrom_43 rfl rfl ?_
    exact q_iret dX0_endFrom_44 rfl (Nat.zero_le _) (Nat.zero_le _) (⟨rfl, rfl, rfl⟩)
  | succ d ih =>
    intro i k x y ls hi hk hr hx hy hl
    subst hx hy
    refine V.at ?_ hl
    refine q_iload_n dX0_endFrom_4 rfl rfl ?_
    refine q_aload_n dX0_endFrom_5 rfl rfl ?_
    refine q_get dX0_endFrom_6 fX0_endFrom_21 (hq) rfl ?_
    refine q_icmp_ge 43 dX0_endFrom_9 (by decide) (fun z => absurd z (nI_ge (by omega) (by omega))) (fun _ => ?_)
    refine q_aload_n dX0_endFrom_12 rfl rfl ?_
    refine q_iload_n dX0_endFrom_13 rfl rfl ?_
    refine q_callVd dX0_endFrom_14 wX0_endFrom_53 (c_goesUp hq hb hc hn hk) (hq) ⟨_, _, rfl⟩ rfl rfl (Nat.le_of_ble_eq_true rfl) ⟨⟨Nat.le_of_ble_eq_true rfl, Nat.le_of_ble_eq_true rfl⟩, Nat.le_of_ble_eq_true rfl, Nat.le_of_ble_eq_true rfl⟩ ?_
    refine q_if_eq 26 dX0_endFrom_17 (by decide) (fun cA => ?_) (fun cA => ?_)
    · refine q_aload_n dX0_endFrom_26 rfl rfl ?_
      refine q_iload_n dX0_endFrom_27 rfl rfl ?_
      refine q_callVd dX0_endFrom_28 wX0_endFrom_57 (c_goesDown hq hb hc hn hk) (hq) ⟨_, _, rfl⟩ rfl rfl (Nat.le_of_ble_eq_true rfl) ⟨⟨Nat.le_of_ble_eq_true rfl, Nat.le_of_ble_eq_true rfl⟩, Nat.le_of_ble_eq_true rfl, Nat.le_of_ble_eq_true rfl⟩ ?_
      refine q_if_eq 37 dX0_endFrom_31 (by decide) (fun cB => ?_) (fun cB => ?_)
      · have hU := bI_0.mp cA
        have hD := bI_0.mp cB
        have e : enT (dUp hv lt n L) (dDn hv lt n L) k = k := by unfold enT; rw [if_neg (by rw [hU]; decide), if_neg (by rw [hD]; decide)]
        refine q_iinc1 dX0_endFrom_37 rfl (by decide) ?_
        refine q_goto 4 dX0_endFrom_40 (by decide) ?_
        exact ih (i + 1) k _ _ _ (by omega) (by omega) (by rw [hr]; simp only [enS, e]) rfl (nI_s i) ⟨rfl, rfl, rfl, rfl, trivial⟩
      · have hU := bI_0.mp cA
        have hD := bI_n.mp cB
        have hp := dDn_pos hD
        have e : enT (dUp hv lt n L) (dDn hv lt n L) k = k - 1 := by unfold enT; rw [if_neg (by rw [hU]; decide), if_pos hD]
        refine q_iincM dX0_endFrom_34 rfl (by decide) ?_
        refine q_iinc1 dX0_endFrom_37 rfl (by decide) ?_
        refine q_goto 4 dX0_endFrom_40 (by decide) ?_
        exact ih (i + 1) (k - 1) _ _ _ (by omega) (by omega) (by rw [hr, ← e]; rfl) (sb_m1 hp) (nI_s i) ⟨rfl, rfl, rfl, rfl, trivial⟩
    · have hU := bI_n.mp cA
      have hlt := dUp_lt hU
      have e : enT (dUp hv lt n L) (dDn hv lt n L) k = k + 1 := by unfold enT; rw [if_pos hU]
      refine q_iinc1 dX0_endFrom_20 rfl (by decide) ?_
      refine q_goto 37 dX0_endFrom_23 (by decide) ?_
      refine q_iinc1 dX0_endFrom_37 rfl (by decide) ?_
      refine q_goto 4 dX0_endFrom_40 (by decide) ?_
      exact ih (i + 1) (k + 1) _ _ _ (by omega) (by omega) (by rw [hr, ← e]; rfl) (nI_s k) (nI_s i) ⟨rfl, rfl, rfl, rfl, trivial⟩
theorem c_endFrom (hq : hat as h q (ob 0 [.ref a, .ref b, .ref c, .int (nI n), .int L])) (hb : hat as h b (aI Γ 31 hv)) (hc : hat as h c (aI Γ 31 lt)) (hn : n ≤ 30) (hk : k ≤ n) : Det Γ l mX0_endFrom rX0_endFrom [.ref q, .int (nI k)] as h (some (.int (nI (enS (dUp hv lt n L) (dDn hv lt n L) n k)))) h := by
  refine Con.of (by decide +kernel) rfl rfl (Nat.le_of_ble_eq_true rfl) ?_
  refine q_iload_n dX0_endFrom_0 rfl rfl ?_
  refine q_istore_n dX0_endFrom_1 rfl (by decide) ?_
  refine q_iconst (v := 0) dX0_endFrom_2 rfl ?_
  refine q_istore_n dX0_endFrom_3 rfl (by decide) ?_
  exact end_loop hq hb hc hn n 0 k _ _ _ (by omega) hk rfl rfl rfl ⟨rfl, rfl, rfl, rfl, trivial⟩
theorem enS_le (hk : k ≤ n) : ∀ d, enS (dUp hv lt n L) (dDn hv lt n L) d k ≤ n := by
  intro d
  induction d generalizing k with
  | zero => exact hk
  | succ d ih =>
    refine ih ?_
    unfold enT
    by_cases h1 : dUp hv lt n L k = true
    · rw [if_pos h1]; exact dUp_lt h1
    · rw [if_neg h1]
      by_cases h2 : dDn hv lt n L k = true
      · rw [if_pos h2]; omega
      · rw [if_neg h2]; exact hk
theorem tip_loop (hq : hat as h q (ob 0 [.ref a, .ref b, .ref c, .int (nI n), .int L])) (hb : hat as h b (aI Γ 31 hv)) (hc : hat as h c (aI Γ 31 lt)) (hn : n ≤ 30) {r0 : Int32} : ∀ (d k : Nat) (y : Int32) (ls : List (Nat × Value)), k + d = n + 1 → r0 = tiS (dUp hv lt n L) (dDn hv lt n L) n d k → y = nI k → lin ls [(0, .ref q), (1, .int y)] → V Γ l mX0_leastThatEndsInAll rX0_leastThatEndsInAll (Zm Γ rX0_leastThatEndsInAll (qD (some (.int r0)) as h)) 0 0 2 ls [] as h := by
  intro d
  induction d with
  | zero =>
    intro k y ls hk hx hy hl
    subst hx hy
    refine V.at ?_ hl
    refine q_iload_n dX0_leastThatEndsInAll_2 rfl rfl ?_
    refine q_aload_n dX0_leastThatEndsInAll_3 rfl rfl ?_
    refine q_get dX0_leastThatEndsInAll_4 fX0_leastThatEndsInAll_21 (hq) rfl ?_
    refine q_icmp_gt 30 dX0_leastThatEndsInAll_7 (by decide) (fun _ => ?_) (fun z => absurd (nI_lt (by omega) (by omega)) z)
    refine q_bipush (v := (-9)) dX0_leastThatEndsInAll_30 rfl ?_
    exact q_iret dX0_leastThatEndsInAll_32 rfl (Nat.zero_le _) (Nat.zero_le _) (⟨rfl, rfl, rfl⟩)
  | succ d ih =>
    intro k y ls hk hx hy hl
    subst hy
    refine V.at ?_ hl
    refine q_iload_n dX0_leastThatEndsInAll_2 rfl rfl ?_
    refine q_aload_n dX0_leastThatEndsInAll_3 rfl rfl ?_
    refine q_get dX0_leastThatEndsInAll_4 fX0_leastThatEndsInAll_21 (hq) rfl ?_
    refine q_icmp_gt 30 dX0_leastThatEndsInAll_7 (by decide) (fun z => absurd z (nI_nlt (by omega) (by omega))) (fun _ => ?_)
    refine q_aload_n dX0_leastThatEndsInAll_10 rfl rfl ?_
    refine q_iload_n dX0_leastThatEndsInAll_11 rfl rfl ?_
    refine q_callVd dX0_leastThatEndsInAll_12 wX0_leastThatEndsInAll_60 (c_endFrom hq hb hc hn (show k ≤ n by omega)) (hq) ⟨_, _, rfl⟩ rfl rfl (Nat.le_of_ble_eq_true rfl) ⟨⟨Nat.le_of_ble_eq_true rfl, Nat.le_of_ble_eq_true rfl⟩, Nat.le_of_ble_eq_true rfl, Nat.le_of_ble_eq_true rfl⟩ ?_
    refine q_aload_n dX0_leastThatEndsInAll_15 rfl rfl ?_
    refine q_get dX0_leastThatEndsInAll_16 fX0_leastThatEndsInAll_21 (hq) rfl ?_
    refine q_icmp_ne 24 dX0_leastThatEndsInAll_19 (by decide) (fun cA => ?_) (fun cA => ?_)
    · have e : ¬ enS (dUp hv lt n L) (dDn hv lt n L) n k = n := fun z => cA (by rw [z])
      refine q_iinc1 dX0_leastThatEndsInAll_24 rfl (by decide) ?_
      refine q_goto 2 dX0_leastThatEndsInAll_27 (by decide) ?_
      exact ih (k + 1) _ _ (by omega) (by rw [hx]; simp only [tiS]; rw [if_neg e]) (nI_s k) ⟨rfl, rfl, trivial⟩
    · have e : enS (dUp hv lt n L) (dDn hv lt n L) n k = n := (nI_eq (Nat.lt_of_le_of_lt (enS_le (by omega) n) (by omega)) (by omega)).mp cA
      refine q_iload_n dX0_leastThatEndsInAll_22 rfl rfl ?_
      exact q_iret dX0_leastThatEndsInAll_23 rfl (Nat.zero_le _) (Nat.zero_le _) (⟨by rw [hx]; simp only [tiS]; rw [if_pos e], rfl, rfl⟩)
theorem c_leastThatEndsInAll (hq : hat as h q (ob 0 [.ref a, .ref b, .ref c, .int (nI n), .int L])) (hb : hat as h b (aI Γ 31 hv)) (hc : hat as h c (aI Γ 31 lt)) (hn : n ≤ 30) : Det Γ l mX0_leastThatEndsInAll rX0_leastThatEndsInAll [.ref q] as h (some (.int (tiS (dUp hv lt n L) (dDn hv lt n L) n (n + 1) 0))) h := by
  refine Con.of (by decide +kernel) rfl rfl (Nat.le_of_ble_eq_true rfl) ?_
  refine q_iconst (v := 0) dX0_leastThatEndsInAll_0 rfl ?_
  refine q_istore_n dX0_leastThatEndsInAll_1 rfl (by decide) ?_
  exact tip_loop hq hb hc hn (n + 1) 0 _ _ (by omega) rfl rfl ⟨rfl, rfl, trivial⟩
theorem wof_left {M C w : Nat} (hM : M < 2 ^ 31) (hw : w < 1000) : nI (M - C) - (if nI w < nI (M - C) then nI w else nI (M - C)) = nI (M - (C + w)) := by
  by_cases hlt : w < M - C
  · rw [if_pos (nI_lt hlt (by omega)), pk_sub (by omega)]
    congr 1
    omega
  · rw [if_neg (nI_nlt (by omega) (by omega)), pk_sub (by omega)]
    congr 1
    omega
theorem wof_loop (hq : hat as h q (ob 0 [.ref a, .ref b, .ref c, .int (nI n), .int L])) (ha : hat as h a (aI Γ 10 fw)) (hW : ∀ j, j < 10 → fw j = nI (W j) ∧ W j < 1000) {v1 v2 v3 : Int32} {M : Nat} (hM : M < 2 ^ 31) (hwt : ∀ i, i < 10 → wt i < 10 ∧ v2 + v3 * nI i = nI (wt i)) : ∀ (d i : Nat) (y4 y5 y6 : Int32) (ls : List (Nat × Value)), i + d = 10 → y4 = nI (M - cB W wt i) → y5 = woB W wt M i → y6 = nI i → lin ls [(0, .ref q), (1, .int v1), (2, .int v2), (3, .int v3), (4, .int y4), (5, .int y5), (6, .int y6)] → V Γ l mX0_weightsOf rX0_weightsOf (Zm Γ rX0_weightsOf (qD (some (.int (woB W wt M 10))) as h)) 0 0 9 ls [] as h := by
  intro d
  induction d with
  | zero =>
    intro i y4 y5 y6 ls hi h4 h5 h6 hl
    subst h4 h5 h6
    refine V.at ?_ hl
    refine q_iload dX0_weightsOf_9 rfl ?_
    refine q_bipush (v := 10) dX0_weightsOf_11 rfl ?_
    refine q_icmp_ge 71 dX0_weightsOf_13 (by decide) (fun _ => ?_) (fun z => absurd (ge_c 10 rfl (by omega) (by omega)) z)
    refine q_iload dX0_weightsOf_71 rfl ?_
    exact q_iret dX0_weightsOf_73 rfl (Nat.zero_le _) (Nat.zero_le _) (⟨by rw [show i = 10 by omega], rfl, rfl⟩)
  | succ d ih =>
    intro i y4 y5 y6 ls hi h4 h5 h6 hl
    have hw := (hwt i (by omega)).1
    have hWi := hW (wt i) hw
    subst h4 h5 h6
    refine V.at ?_ hl
    refine q_iload dX0_weightsOf_9 rfl ?_
    refine q_bipush (v := 10) dX0_weightsOf_11 rfl ?_
    refine q_icmp_ge 71 dX0_weightsOf_13 (by decide) (fun z => absurd z (lt_c 10 rfl (by omega) (by omega))) (fun _ => ?_)
    refine q_iload_n dX0_weightsOf_16 rfl rfl ?_
    refine q_iload_n dX0_weightsOf_17 rfl rfl ?_
    refine q_iload dX0_weightsOf_18 rfl ?_
    refine q_imul dX0_weightsOf_20 ?_
    refine q_iadd dX0_weightsOf_21 ?_
    rw [(hwt i (by omega)).2]
    refine q_istore dX0_weightsOf_22 (by decide) ?_
    refine q_iload dX0_weightsOf_24 rfl ?_
    refine q_if_le 65 dX0_weightsOf_26 (by decide) (fun cX => ?_) (fun cX => ?_)
    · have e : M ≤ cB W wt i ∨ W (wt i) = 0 := by
        first | exact Or.inr (Nat.eq_zero_of_not_pos (fun z => nI_nle z (by omega) cY)) | exact Or.inl (Nat.le_of_sub_eq_zero (Nat.eq_zero_of_not_pos (fun z => nI_nle z (by omega) cX)))
      refine q_iinc1 dX0_weightsOf_65 rfl (by decide) ?_
      refine q_goto 9 dX0_weightsOf_68 (by decide) ?_
      exact ih (i + 1) _ _ _ _ (by omega) (by simp only [cB]; congr 1; omega) (by simp only [woB]; rw [if_neg (by omega)]) (nI_s i) ⟨rfl, rfl, rfl, rfl, rfl, rfl, rfl, trivial⟩
    · refine q_aload_n dX0_weightsOf_29 rfl rfl ?_
      refine q_get dX0_weightsOf_30 fX0_weightsOf_9 (hq) rfl ?_
      refine q_iload dX0_weightsOf_33 rfl ?_
      refine q_iald dX0_weightsOf_35 (ha) (in_nI hw (by omega)) ?_
      rw [nI_clamp (by omega), hWi.1]
      refine q_if_le 65 dX0_weightsOf_36 (by decide) (fun cY => ?_) (fun cY => ?_)
      · have e : M ≤ cB W wt i ∨ W (wt i) = 0 := by
          first | exact Or.inr (Nat.eq_zero_of_not_pos (fun z => nI_nle z (by omega) cY)) | exact Or.inl (Nat.le_of_sub_eq_zero (Nat.eq_zero_of_not_pos (fun z => nI_nle z (by omega) cX)))
        refine q_iinc1 dX0_weightsOf_65 rfl (by decide) ?_
        refine q_goto 9 dX0_weightsOf_68 (by decide) ?_
        exact ih (i + 1) _ _ _ _ (by omega) (by simp only [cB]; congr 1; omega) (by simp only [woB]; rw [if_neg (by omega)]) (nI_s i) ⟨rfl, rfl, rfl, rfl, rfl, rfl, rfl, trivial⟩
      · have e1 : cB W wt i < M := Nat.lt_of_not_le (fun z => cX (by rw [show M - cB W wt i = 0 by omega]; exact Int32.le_refl _))
        have e2 : 0 < W (wt i) := Nat.pos_of_ne_zero (fun z => cY (by rw [z]; exact Int32.le_refl _))
        refine q_iload dX0_weightsOf_39 rfl ?_
        refine q_iconst (v := 1) dX0_weightsOf_41 rfl ?_
        refine q_iload dX0_weightsOf_42 rfl ?_
        refine q_ishl dX0_weightsOf_44 ?_
        refine q_ior dX0_weightsOf_45 ?_
        refine q_istore dX0_weightsOf_46 (by decide) ?_
        refine q_iload dX0_weightsOf_48 rfl ?_
        refine q_iload dX0_weightsOf_50 rfl ?_
        refine q_aload_n dX0_weightsOf_52 rfl rfl ?_
        refine q_get dX0_weightsOf_53 fX0_weightsOf_9 (hq) rfl ?_
        refine q_iload dX0_weightsOf_56 rfl ?_
        refine q_iald dX0_weightsOf_58 (ha) (in_nI hw (by omega)) ?_
        refine q_mmin dX0_weightsOf_59 (by decide +kernel) (Nat.le_of_ble_eq_true rfl) (Nat.le_of_ble_eq_true rfl) (Nat.zero_le _) (Nat.zero_le _) ?_
        refine q_isub dX0_weightsOf_62 ?_
        refine q_istore dX0_weightsOf_63 (by decide) ?_
        refine q_iinc1 dX0_weightsOf_65 rfl (by decide) ?_
        refine q_goto 9 dX0_weightsOf_68 (by decide) ?_
        exact ih (i + 1) _ _ _ _ (by omega) (by rw [nI_clamp (by omega), hWi.1]; exact wof_left hM hWi.2) (by simp only [woB]; rw [if_pos ⟨e1, e2⟩]) (nI_s i) ⟨rfl, rfl, rfl, rfl, rfl, rfl, rfl, trivial⟩
theorem c_weightsOf (hq : hat as h q (ob 0 [.ref a, .ref b, .ref c, .int (nI n), .int L])) (ha : hat as h a (aI Γ 10 fw)) (hW : ∀ j, j < 10 → fw j = nI (W j) ∧ W j < 1000) {v2 v3 : Int32} {M : Nat} (hM : M < 2 ^ 31) (hwt : ∀ i, i < 10 → wt i < 10 ∧ v2 + v3 * nI i = nI (wt i)) : Det Γ l mX0_weightsOf rX0_weightsOf [.ref q, .int (nI M), .int v2, .int v3] as h (some (.int (woB W wt M 10))) h := by
  refine Con.of (by decide +kernel) rfl rfl (Nat.le_of_ble_eq_true rfl) ?_
  refine q_iload_n dX0_weightsOf_0 rfl rfl ?_
  refine q_istore dX0_weightsOf_1 (by decide) ?_
  refine q_iconst (v := 0) dX0_weightsOf_3 rfl ?_
  refine q_istore dX0_weightsOf_4 (by decide) ?_
  refine q_iconst (v := 0) dX0_weightsOf_6 rfl ?_
  refine q_istore dX0_weightsOf_7 (by decide) ?_
  exact wof_loop hq ha hW hM hwt 10 0 _ _ _ _ (by omega) rfl rfl rfl ⟨rfl, rfl, rfl, rfl, rfl, rfl, rfl, trivial⟩
theorem c_weightsLeftOut (hq : hat as h q (ob 0 [.ref a, .ref b, .ref c, .int (nI n), .int L])) (ha : hat as h a (aI Γ 10 fw)) (hW : ∀ j, j < 10 → fw j = nI (W j) ∧ W j < 1000) (hn : n ≤ 30) (hk : k ≤ n) : Det Γ l mX0_weightsLeftOut rX0_weightsLeftOut [.ref q, .int (nI k)] as h (some (.int (woB W wUp 2147483647 10 &&& ((woB W wUp k 10 ||| woB W wDn (n - k) 10) ^^^ (-1))))) h := by
  refine Con.of (by decide +kernel) rfl rfl (Nat.le_of_ble_eq_true rfl) ?_
  refine q_aload_n dX0_weightsLeftOut_0 rfl rfl ?_
  refine q_iload_n dX0_weightsLeftOut_1 rfl rfl ?_
  refine q_iconst (v := 0) dX0_weightsLeftOut_2 rfl ?_
  refine q_iconst (v := 1) dX0_weightsLeftOut_3 rfl ?_
  refine q_callVd dX0_weightsLeftOut_4 wX0_weightsLeftOut_63 (c_weightsOf (wt := wUp) (M := k) hq ha hW (by omega) wUp_ok) (hq) ⟨_, _, rfl⟩ rfl rfl (Nat.le_of_ble_eq_true rfl) ⟨⟨Nat.le_of_ble_eq_true rfl, Nat.le_of_ble_eq_true rfl⟩, Nat.le_of_ble_eq_true rfl, Nat.le_of_ble_eq_true rfl⟩ ?_
  refine q_aload_n dX0_weightsLeftOut_7 rfl rfl ?_
  refine q_aload_n dX0_weightsLeftOut_8 rfl rfl ?_
  refine q_get dX0_weightsLeftOut_9 fX0_weightsLeftOut_21 (hq) rfl ?_
  refine q_iload_n dX0_weightsLeftOut_12 rfl rfl ?_
  refine q_isub dX0_weightsLeftOut_13 ?_
  refine q_bipush (v := 9) dX0_weightsLeftOut_14 rfl ?_
  refine q_iconst (v := (-1)) dX0_weightsLeftOut_16 rfl ?_
  rw [pk_sub hk]
  refine q_callVd dX0_weightsLeftOut_17 wX0_weightsLeftOut_63 (c_weightsOf (wt := wDn) (M := n - k) hq ha hW (by omega) wDn_ok) (hq) ⟨_, _, rfl⟩ rfl rfl (Nat.le_of_ble_eq_true rfl) ⟨⟨Nat.le_of_ble_eq_true rfl, Nat.le_of_ble_eq_true rfl⟩, Nat.le_of_ble_eq_true rfl, Nat.le_of_ble_eq_true rfl⟩ ?_
  refine q_ior dX0_weightsLeftOut_20 ?_
  refine q_istore_n dX0_weightsLeftOut_21 rfl (by decide) ?_
  refine q_aload_n dX0_weightsLeftOut_22 rfl rfl ?_
  refine q_ldc (v := 2147483647) dX0_weightsLeftOut_23 (by decide +kernel) ?_
  refine q_iconst (v := 0) dX0_weightsLeftOut_25 rfl ?_
  refine q_iconst (v := 1) dX0_weightsLeftOut_26 rfl ?_
  refine q_callVd dX0_weightsLeftOut_27 wX0_weightsLeftOut_63 (c_weightsOf (wt := wUp) (M := 2147483647) hq ha hW (by omega) wUp_ok) (hq) ⟨_, _, rfl⟩ rfl rfl (Nat.le_of_ble_eq_true rfl) ⟨⟨Nat.le_of_ble_eq_true rfl, Nat.le_of_ble_eq_true rfl⟩, Nat.le_of_ble_eq_true rfl, Nat.le_of_ble_eq_true rfl⟩ ?_
  refine q_iload_n dX0_weightsLeftOut_30 rfl rfl ?_
  refine q_iconst (v := (-1)) dX0_weightsLeftOut_31 rfl ?_
  refine q_ixor dX0_weightsLeftOut_32 ?_
  refine q_iand dX0_weightsLeftOut_33 ?_
  exact q_iret dX0_weightsLeftOut_34 rfl (Nat.zero_le _) (Nat.zero_le _) (⟨rfl, rfl, rfl⟩)
end

