/-! PURSES: loseGrain -/
theorem wr_out {f : Nat → Int32} {p w j : Nat} (h : ¬ (j < p * 10 ∨ (p * 10 + w < j ∧ j ≤ p * 10 + 9))) : wrI f p w j = f j := if_neg h
theorem wr_in {f : Nat → Int32} {p w j : Nat} (h : j < p * 10 ∨ (p * 10 + w < j ∧ j ≤ p * 10 + 9)) : wrI f p w j = wearF f j := if_pos h
theorem wr_a {f : Nat → Int32} {p : Nat} : upd (wrI f p 9) (p * 10 + 9) (if wrI f p 9 (p * 10 + 9) + wrI f p 9 (p * 10 + 8) < 99 then wrI f p 9 (p * 10 + 9) + wrI f p 9 (p * 10 + 8) else 99) = wrI f p 8 := by
  funext j
  by_cases hj : j = p * 10 + 9
  · subst hj
    rw [pk_us, wr_in (w := 8) (by omega), wr_out (w := 9) (j := p * 10 + 9) (by omega), wr_out (w := 9) (j := p * 10 + 8) (by omega)]
    unfold wearF
    rw [if_pos (show (p * 10 + 9) % 10 = 9 by omega)]
    rfl
  · rw [pk_un hj]
    by_cases h : j < p * 10
    · rw [wr_in (by omega), wr_in (by omega)]
    · rw [wr_out (by omega), wr_out (by omega)]
theorem wr_b {f : Nat → Int32} {p w : Nat} (hw : w < 8) : upd (wrI f p (w + 1)) (p * 10 + (w + 1)) (wrI f p (w + 1) (p * 10 + w)) = wrI f p w := by
  funext j
  by_cases hj : j = p * 10 + (w + 1)
  · subst hj
    rw [pk_us, wr_in (w := w) (by omega), wr_out (w := w + 1) (by omega)]
    unfold wearF
    rw [if_neg (by omega), if_neg (by omega)]
    rfl
  · rw [pk_un hj]
    by_cases h : j < p * 10 ∨ (p * 10 + w < j ∧ j ≤ p * 10 + 9)
    · rw [wr_in (by omega), wr_in (by omega)]
    · rw [wr_out (by omega), wr_out (by omega)]
theorem wr_c {f : Nat → Int32} {p : Nat} : upd (wrI f p 0) (p * 10 + 0) 0 = wrI f (p + 1) 9 := by
  funext j
  by_cases hj : j = p * 10 + 0
  · subst hj
    rw [pk_us, wr_in (by omega)]
    unfold wearF
    rw [if_neg (by omega), if_pos (by omega)]
  · rw [pk_un hj]
    by_cases h : j < (p + 1) * 10
    · rw [wr_in (by omega), wr_in (by omega)]
    · rw [wr_out (by omega), wr_out (by omega)]
theorem wr_0 {f : Nat → Int32} : wrI f 0 9 = f := by
  funext j
  exact wr_out (by omega)
/-- what the array holds behind loseGrain -/
def wearA (f : Nat → Int32) : Nat → Int32 := wrI f 8 9
theorem wearA_at {f : Nat → Int32} {j : Nat} (hj : j < 80) : wearA f j = wearF f j := wr_in (by omega)
section
variable {Γ : gT} {l : Launch} {as : List Nat} {h : aH} {q r : Nat} {f : Nat → Int32}
theorem lose_inner (hq : hat as h q (ob 4 [.ref r])) (hr : hat as h r (aI Γ 80 f)) {p : Nat} (hp : p < 8) {s : Int32} {Z : zT} (K : ∀ x : Int32, V Γ l mX4_loseGrain rX4_loseGrain Z 0 0 64 [(0, .ref q), (1, .int (nI p)), (2, .int s), (3, .int x)] [] as (hset h r (aI Γ 80 (wrI f p 0)))) : ∀ (w : Nat) (y : Int32) (h' : aH), w ≤ 8 → y = nI w → h' = hset h r (aI Γ 80 (wrI f p w)) → V Γ l mX4_loseGrain rX4_loseGrain Z 0 0 40 [(0, .ref q), (1, .int (nI p)), (2, .int s), (3, .int y)] [] as h' := by
  have hqr : q ≠ r := hat_un hq hr (fun z => by cases z)
  intro w
  induction w with
  | zero =>
    intro y h' hw hy hh
    subst hy hh
    refine q_iload_n dX4_loseGrain_40 rfl rfl ?_
    refine q_if_le 64 dX4_loseGrain_41 (by decide) (fun _ => ?_) (fun z => absurd (Int32.le_refl _) z)
    exact K _
  | succ w ih =>
    intro y h' hw hy hh
    subst hy hh
    refine q_iload_n dX4_loseGrain_40 rfl rfl ?_
    refine q_if_le 64 dX4_loseGrain_41 (by decide) (fun z => absurd z (nI_nle (by omega) (by omega))) (fun _ => ?_)
    refine q_aload_n dX4_loseGrain_44 rfl rfl ?_
    refine q_iload_n dX4_loseGrain_45 rfl rfl ?_
    refine q_iload_n dX4_loseGrain_46 rfl rfl ?_
    refine q_aload_n dX4_loseGrain_47 rfl rfl ?_
    refine q_iload_n dX4_loseGrain_48 rfl rfl ?_
    refine q_iload_n dX4_loseGrain_49 rfl rfl ?_
    refine q_iconst (v := 1) dX4_loseGrain_50 rfl ?_
    refine q_isub dX4_loseGrain_51 ?_
    rw [nI_pred]
    refine q_callVd dX4_loseGrain_52 wX4_loseGrain_25 (c_held (hat_ne hq hqr) (hat_set hr) hp (show w < 10 by omega)) (hat_ne hq hqr) ⟨_, _, rfl⟩ rfl rfl (Nat.le_of_ble_eq_true rfl) ⟨⟨Nat.le_of_ble_eq_true rfl, Nat.le_of_ble_eq_true rfl⟩, Nat.le_of_ble_eq_true rfl, Nat.le_of_ble_eq_true rfl⟩ ?_
    refine q_callVd dX4_loseGrain_55 wX4_loseGrain_35 (c_put (hat_ne hq hqr) (hat_set hr) hp (show w + 1 < 10 by omega) _) (hat_ne hq hqr) ⟨_, _, rfl⟩ rfl rfl (Nat.le_of_ble_eq_true rfl) ⟨⟨Nat.le_of_ble_eq_true rfl, Nat.le_of_ble_eq_true rfl⟩, Nat.le_of_ble_eq_true rfl, Nat.le_of_ble_eq_true rfl⟩ ?_
    refine q_iincM dX4_loseGrain_58 rfl (by decide) ?_
    refine q_goto 40 dX4_loseGrain_61 (by decide) ?_
    exact V.at (ih _ _ (by omega) (pk_m1 w) (by rw [hset_hset, wr_b (by omega)])) ⟨rfl, rfl, rfl, rfl, trivial⟩
theorem lose_loop (hq : hat as h q (ob 4 [.ref r])) (hr : hat as h r (aI Γ 80 f)) : ∀ (d p : Nat) (y : Int32) (ls : List (Nat × Value)) (h' : aH), p + d = 8 → y = nI p → h' = hset h r (aI Γ 80 (wrI f p 9)) → lk 0 ls = some (.ref q) → lk 1 ls = some (.int y) → V Γ l mX4_loseGrain rX4_loseGrain (Zm Γ rX4_loseGrain (qD none as (hset h r (aI Γ 80 (wearA f))))) 0 0 2 ls [] as h' := by
  have hqr : q ≠ r := hat_un hq hr (fun z => by cases z)
  intro d
  induction d with
  | zero =>
    intro p y ls h' hk hy hh l0 l1
    subst hy hh
    refine V.at (ls' := [(0, .ref q), (1, .int (nI p))]) ?_ ⟨l0, l1, trivial⟩
    refine q_iload_n dX4_loseGrain_2 rfl rfl ?_
    refine q_bipush (v := 8) dX4_loseGrain_3 rfl ?_
    refine q_icmp_ge 77 dX4_loseGrain_5 (by decide) (fun _ => ?_) (fun z => absurd (ge_c 8 rfl (by omega) (by omega)) z)
    exact q_vret dX4_loseGrain_77 rfl (Nat.zero_le _) (Nat.zero_le _) (⟨rfl, rfl, by rw [show p = 8 by omega]; rfl⟩)
  | succ d ih =>
    intro p y ls h' hk hy hh l0 l1
    subst hy hh
    refine V.at (ls' := [(0, .ref q), (1, .int (nI p))]) ?_ ⟨l0, l1, trivial⟩
    refine q_iload_n dX4_loseGrain_2 rfl rfl ?_
    refine q_bipush (v := 8) dX4_loseGrain_3 rfl ?_
    refine q_icmp_ge 77 dX4_loseGrain_5 (by decide) (fun z => absurd z (lt_c 8 rfl (by omega) (by omega))) (fun _ => ?_)
    refine q_aload_n dX4_loseGrain_8 rfl rfl ?_
    refine q_iload_n dX4_loseGrain_9 rfl rfl ?_
    refine q_bipush (v := 9) dX4_loseGrain_10 rfl ?_
    refine q_callVd dX4_loseGrain_12 wX4_loseGrain_25 (c_held (hat_ne hq hqr) (hat_set hr) (show p < 8 by omega) (show 9 < 10 by omega)) (hat_ne hq hqr) ⟨_, _, rfl⟩ rfl rfl (Nat.le_of_ble_eq_true rfl) ⟨⟨Nat.le_of_ble_eq_true rfl, Nat.le_of_ble_eq_true rfl⟩, Nat.le_of_ble_eq_true rfl, Nat.le_of_ble_eq_true rfl⟩ ?_
    refine q_aload_n dX4_loseGrain_15 rfl rfl ?_
    refine q_iload_n dX4_loseGrain_16 rfl rfl ?_
    refine q_bipush (v := 8) dX4_loseGrain_17 rfl ?_
    refine q_callVd dX4_loseGrain_19 wX4_loseGrain_25 (c_held (hat_ne hq hqr) (hat_set hr) (show p < 8 by omega) (show 8 < 10 by omega)) (hat_ne hq hqr) ⟨_, _, rfl⟩ rfl rfl (Nat.le_of_ble_eq_true rfl) ⟨⟨Nat.le_of_ble_eq_true rfl, Nat.le_of_ble_eq_true rfl⟩, Nat.le_of_ble_eq_true rfl, Nat.le_of_ble_eq_true rfl⟩ ?_
    refine q_iadd dX4_loseGrain_22 ?_
    refine q_istore_n dX4_loseGrain_23 rfl (by decide) ?_
    refine q_aload_n dX4_loseGrain_24 rfl rfl ?_
    refine q_iload_n dX4_loseGrain_25 rfl rfl ?_
    refine q_bipush (v := 9) dX4_loseGrain_26 rfl ?_
    refine q_bipush (v := 99) dX4_loseGrain_28 rfl ?_
    refine q_iload_n dX4_loseGrain_30 rfl rfl ?_
    refine q_mmin dX4_loseGrain_31 (by decide +kernel) (Nat.le_of_ble_eq_true rfl) (Nat.le_of_ble_eq_true rfl) (Nat.zero_le _) (Nat.zero_le _) ?_
    refine q_callVd dX4_loseGrain_34 wX4_loseGrain_35 (c_put (hat_ne hq hqr) (hat_set hr) (show p < 8 by omega) (show 9 < 10 by omega) _) (hat_ne hq hqr) ⟨_, _, rfl⟩ rfl rfl (Nat.le_of_ble_eq_true rfl) ⟨⟨Nat.le_of_ble_eq_true rfl, Nat.le_of_ble_eq_true rfl⟩, Nat.le_of_ble_eq_true rfl, Nat.le_of_ble_eq_true rfl⟩ ?_
    refine q_bipush (v := 8) dX4_loseGrain_37 rfl ?_
    refine q_istore_n dX4_loseGrain_39 rfl (by decide) ?_
    refine V.at (lose_inner hq hr (show p < 8 by omega) (fun x => ?_) 8 _ _ (by omega) rfl (by rw [hset_hset, wr_a])) ⟨rfl, rfl, rfl, rfl, trivial⟩
    refine q_aload_n dX4_loseGrain_64 rfl rfl ?_
    refine q_iload_n dX4_loseGrain_65 rfl rfl ?_
    refine q_iconst (v := 0) dX4_loseGrain_66 rfl ?_
    refine q_iconst (v := 0) dX4_loseGrain_67 rfl ?_
    refine q_callVd dX4_loseGrain_68 wX4_loseGrain_35 (c_put (hat_ne hq hqr) (hat_set hr) (show p < 8 by omega) (show 0 < 10 by omega) _) (hat_ne hq hqr) ⟨_, _, rfl⟩ rfl rfl (Nat.le_of_ble_eq_true rfl) ⟨⟨Nat.le_of_ble_eq_true rfl, Nat.le_of_ble_eq_true rfl⟩, Nat.le_of_ble_eq_true rfl, Nat.le_of_ble_eq_true rfl⟩ ?_
    refine q_iinc1 dX4_loseGrain_71 rfl (by decide) ?_
    refine q_goto 2 dX4_loseGrain_74 (by decide) ?_
    exact ih (p + 1) _ _ _ (by omega) (nI_s p) (by rw [hset_hset, wr_c]) rfl rfl
theorem c_loseGrain (hq : hat as h q (ob 4 [.ref r])) (hr : hat as h r (aI Γ 80 f)) : Det Γ l mX4_loseGrain rX4_loseGrain [.ref q] as h none (hset h r (aI Γ 80 (wearA f))) := by
  refine Con.of (by decide +kernel) rfl rfl (Nat.le_of_ble_eq_true rfl) ?_
  refine q_iconst (v := 0) dX4_loseGrain_0 rfl ?_
  refine q_istore_n dX4_loseGrain_1 rfl (by decide) ?_
  exact lose_loop hq hr 8 0 _ _ _ (by omega) rfl (by rw [wr_0, hset_same]; exact hr.2) rfl rfl
end

