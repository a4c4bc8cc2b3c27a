/-! TEXT (X5): numbers, advance -/
section
variable {Γ : gT} {l : Launch} {as : List Nat} {h : aH} {q b len a s k v : Nat} {bx : Nat → Int32} {t : Nat → Nat}
theorem num_min {v c : Nat} (hv : v ≤ 100) (h1 : 48 ≤ c) (h2 : c ≤ 57) : (if nI v * 10 + nI c - 48 < 100 then nI v * 10 + nI c - 48 else 100) = nI (min 100 (v * 10 + (c - 48))) := by
  rw [show (10 : Int32) = nI 10 from rfl, pk_mul, nI_add, show (48 : Int32) = nI 48 from rfl, pk_sub (by omega), show v * 10 + c - 48 = v * 10 + (c - 48) by omega, show (100 : Int32) = nI 100 from rfl]
  by_cases hlt : v * 10 + (c - 48) < 100
  · rw [if_pos (nI_lt (b := 100) hlt (by omega)), Nat.min_eq_right (by omega)]
  · rw [if_neg (nI_nlt (b := 100) (Nat.le_of_not_lt hlt) (by omega)), Nat.min_eq_left (by omega)]
theorem isDg_in {c : Nat} (h : isDg c = true) : 48 ≤ c ∧ c ≤ 57 := by
  unfold isDg at h
  rwa [Bool.and_eq_true, decide_eq_true_eq, decide_eq_true_eq] at h
def numT (t : Nat → Nat) (s e v : Nat) : Nat := if (t s = 48 ∧ 1 < e - s) ∨ 99 < v then 1 else 2
theorem c_numberToken (hq : hat as h q (tq b len s s k v)) (hb : hat as h b (aI Γ 300 bx)) (ht : ∀ j, j < len → bx j = nI (t j) ∧ t j < 256) (hl : len ≤ 300) (hs : s < len) : Det Γ l mX5_numberToken rX5_numberToken [.ref q] as h (some (.int (nI (numT t s (numS t len (len - s) s 0).1 (numS t len (len - s) s 0).2)))) (hset h q (tq b len (numS t len (len - s) s 0).1 s k (numS t len (len - s) s 0).2)) := by
  have e := hat_oa hq hb
  have hts := ht s hs
  have key : ∀ (d a' v' : Nat) (h' : aH), a' ≤ len → s ≤ a' → v' ≤ 100 → len - a' = d → numS t len (len - s) s 0 = numS t len d a' v' → h' = hset h q (tq b len a' s k v') → V Γ l mX5_numberToken rX5_numberToken (Zm Γ rX5_numberToken (qD (some (.int (nI (numT t s (numS t len (len - s) s 0).1 (numS t len (len - s) s 0).2)))) as (hset h q (tq b len (numS t len (len - s) s 0).1 s k (numS t len (len - s) s 0).2)))) 0 0 5 [(0, .ref q)] [] as h' := by
    have tail : ∀ a' v', s ≤ a' → a' ≤ len → v' ≤ 100 → V Γ l mX5_numberToken rX5_numberToken (Zm Γ rX5_numberToken (qD (some (.int (nI (numT t s a' v')))) as (hset h q (tq b len a' s k v')))) 0 0 73 [(0, .ref q)] [] as (hset h q (tq b len a' s k v')) := by
      intro a' v' h1 h2 h3
      have fin : ∀ z : Int32, (z = 0 ∨ z = 1) → (z = 1 ↔ (t s = 48 ∧ 1 < a' - s)) → V Γ l mX5_numberToken rX5_numberToken (Zm Γ rX5_numberToken (qD (some (.int (nI (numT t s a' v')))) as (hset h q (tq b len a' s k v')))) 0 0 105 [(0, .ref q)] [.int z] as (hset h q (tq b len a' s k v')) := by
        intro z hz1 hz2
        refine q_istore_n dX5_numberToken_105 rfl (by decide) ?_
        refine q_iload_n dX5_numberToken_106 rfl rfl ?_
        refine q_if_ne 119 dX5_numberToken_107 (by decide) (fun cA => ?_) (fun cA => ?_)
        · rw [show numT t s a' v' = 1 by
                unfold numT
                refine if_pos ?_
                first | exact Or.inr (Nat.lt_of_not_le (fun w => cB (nI_le (b := 99) w (by omega)))) | exact Or.inl (hz2.mp (hz1.resolve_left cA))]
          refine q_iconst (v := 1) dX5_numberToken_119 rfl ?_
          refine q_goto 124 dX5_numberToken_120 (by decide) ?_
          exact q_iret dX5_numberToken_124 rfl (Nat.zero_le _) (Nat.zero_le _) (⟨rfl, rfl, rfl⟩)
        · refine q_aload_n dX5_numberToken_110 rfl rfl ?_
          refine q_get dX5_numberToken_111 fX5_numberToken_50 (hat_set hq) rfl ?_
          refine q_bipush (v := 99) dX5_numberToken_114 rfl ?_
          refine q_icmp_le 123 dX5_numberToken_116 (by decide) (fun cB => ?_) (fun cB => ?_)
          · rw [show numT t s a' v' = 2 by
                  unfold numT
                  refine if_neg ?_
                  rintro (w | w)
                  · exact absurd (hz2.mpr w) (by rw [cA]; decide)
                  · exact nI_ge (a := 99) w (by omega) cB]
            refine q_iconst (v := 2) dX5_numberToken_123 rfl ?_
            exact q_iret dX5_numberToken_124 rfl (Nat.zero_le _) (Nat.zero_le _) (⟨rfl, rfl, rfl⟩)
          · rw [show numT t s a' v' = 1 by
                  unfold numT
                  refine if_pos ?_
                  first | exact Or.inr (Nat.lt_of_not_le (fun w => cB (nI_le (b := 99) w (by omega)))) | exact Or.inl (hz2.mp (hz1.resolve_left cA))]
            refine q_iconst (v := 1) dX5_numberToken_119 rfl ?_
            refine q_goto 124 dX5_numberToken_120 (by decide) ?_
            exact q_iret dX5_numberToken_124 rfl (Nat.zero_le _) (Nat.zero_le _) (⟨rfl, rfl, rfl⟩)
      refine q_aload_n dX5_numberToken_73 rfl rfl ?_
      refine q_get dX5_numberToken_74 fX5_numberToken_11 (hat_set hq) rfl ?_
      refine q_aload_n dX5_numberToken_77 rfl rfl ?_
      refine q_get dX5_numberToken_78 fX5_numberToken_41 (hat_set hq) rfl ?_
      refine q_iald dX5_numberToken_81 (hat_ne hb e.symm) (in_nI (show s < 300 by omega) (by omega)) ?_
      refine q_bipush (v := 48) dX5_numberToken_82 rfl ?_
      rw [nI_clamp (by omega), hts.1]
      refine q_icmp_ne 104 dX5_numberToken_84 (by decide) (fun cA => ?_) (fun cA => ?_)
      · refine q_iconst (v := 0) dX5_numberToken_104 rfl ?_
        exact fin 0 (Or.inl rfl) ⟨fun w => absurd w (by decide), fun w => by
            first | exact absurd cB (nI_ge (a := 1) w.2 (by omega)) | exact absurd (by rw [w.1]; rfl) cA⟩
      · refine q_aload_n dX5_numberToken_87 rfl rfl ?_
        refine q_get dX5_numberToken_88 fX5_numberToken_23 (hat_set hq) rfl ?_
        refine q_aload_n dX5_numberToken_91 rfl rfl ?_
        refine q_get dX5_numberToken_92 fX5_numberToken_41 (hat_set hq) rfl ?_
        refine q_isub dX5_numberToken_95 ?_
        refine q_iconst (v := 1) dX5_numberToken_96 rfl ?_
        rw [pk_sub h1]
        refine q_icmp_le 104 dX5_numberToken_97 (by decide) (fun cB => ?_) (fun cB => ?_)
        · refine q_iconst (v := 0) dX5_numberToken_104 rfl ?_
          exact fin 0 (Or.inl rfl) ⟨fun w => absurd w (by decide), fun w => by
              first | exact absurd cB (nI_ge (a := 1) w.2 (by omega)) | exact absurd (by rw [w.1]; rfl) cA⟩
        · refine q_iconst (v := 1) dX5_numberToken_100 rfl ?_
          refine q_goto 105 dX5_numberToken_101 (by decide) ?_
          exact fin 1 (Or.inr rfl) ⟨fun _ => ⟨(nI_eq (b := 48) (by omega) (by omega)).mp cA, Nat.lt_of_not_le (fun w => cB (nI_le (b := 1) w (by omega)))⟩, fun _ => rfl⟩
    intro d
    induction d with
    | zero =>
      intro a' v' h' h1 h2 h5 h3 h4 hh
      subst hh
      refine q_aload_n dX5_numberToken_5 rfl rfl ?_
      refine q_get dX5_numberToken_6 fX5_numberToken_23 (hat_set hq) rfl ?_
      refine q_aload_n dX5_numberToken_9 rfl rfl ?_
      refine q_get dX5_numberToken_10 fX5_numberToken_15 (hat_set hq) rfl ?_
      refine q_icmp_ge 73 dX5_numberToken_13 (by decide) (fun _ => ?_) (fun z => absurd (nI_le (by omega) (by omega)) z)
      rw [h4]
      exact tail a' v' h2 h1 h5
    | succ d ih =>
      intro a' v' h' h1 h2 h5 h3 h4 hh
      subst hh
      have hta := ht a' (by omega)
      refine q_aload_n dX5_numberToken_5 rfl rfl ?_
      refine q_get dX5_numberToken_6 fX5_numberToken_23 (hat_set hq) rfl ?_
      refine q_aload_n dX5_numberToken_9 rfl rfl ?_
      refine q_get dX5_numberToken_10 fX5_numberToken_15 (hat_set hq) rfl ?_
      refine q_icmp_ge 73 dX5_numberToken_13 (by decide) (fun z => absurd z (nI_ge (by omega) (by omega))) (fun _ => ?_)
      refine q_aload_n dX5_numberToken_16 rfl rfl ?_
      refine q_get dX5_numberToken_17 fX5_numberToken_11 (hat_set hq) rfl ?_
      refine q_aload_n dX5_numberToken_20 rfl rfl ?_
      refine q_get dX5_numberToken_21 fX5_numberToken_23 (hat_set hq) rfl ?_
      refine q_iald dX5_numberToken_24 (hat_ne hb e.symm) (in_nI (show a' < 300 by omega) (by omega)) ?_
      rw [nI_clamp (by omega), hta.1]
      refine q_callSd dX5_numberToken_25 wX5_numberToken_59 (c_isDigit hta.2) rfl rfl (Nat.le_of_ble_eq_true rfl) ⟨⟨Nat.le_of_ble_eq_true rfl, Nat.le_of_ble_eq_true rfl⟩, Nat.le_of_ble_eq_true rfl, Nat.le_of_ble_eq_true rfl⟩ ?_
      refine q_if_eq 73 dX5_numberToken_28 (by decide) (fun cL => ?_) (fun cL => ?_)
      · rw [h4, show numS t len (d + 1) a' v' = (a', v') by simp only [numS]; rw [if_neg (by rw [bI_0.mp cL]; exact fun z => absurd z.2 (by decide))]]
        exact tail a' v' h2 h1 h5
      · have hdg := isDg_in (bI_n.mp cL)
        refine q_aload_n dX5_numberToken_31 rfl rfl ?_
        refine q_bipush (v := 100) dX5_numberToken_32 rfl ?_
        refine q_aload_n dX5_numberToken_34 rfl rfl ?_
        refine q_get dX5_numberToken_35 fX5_numberToken_50 (hat_set hq) rfl ?_
        refine q_bipush (v := 10) dX5_numberToken_38 rfl ?_
        refine q_imul dX5_numberToken_40 ?_
        refine q_aload_n dX5_numberToken_41 rfl rfl ?_
        refine q_get dX5_numberToken_42 fX5_numberToken_11 (hat_set hq) rfl ?_
        refine q_aload_n dX5_numberToken_45 rfl rfl ?_
        refine q_get dX5_numberToken_46 fX5_numberToken_23 (hat_set hq) rfl ?_
        refine q_iald dX5_numberToken_49 (hat_ne hb e.symm) (in_nI (show a' < 300 by omega) (by omega)) ?_
        refine q_iadd dX5_numberToken_50 ?_
        refine q_bipush (v := 48) dX5_numberToken_51 rfl ?_
        refine q_isub dX5_numberToken_53 ?_
        rw [nI_clamp (by omega), hta.1]
        refine q_mmin dX5_numberToken_54 (by decide +kernel) (Nat.le_of_ble_eq_true rfl) (Nat.le_of_ble_eq_true rfl) (Nat.zero_le _) (Nat.zero_le _) ?_
        rw [num_min h5 hdg.1 hdg.2]
        refine q_put dX5_numberToken_57 pX5_numberToken_50 (hat_set hq) rfl rfl (Nat.le_of_ble_eq_true rfl) ?_
        refine q_aload_n dX5_numberToken_60 rfl rfl ?_
        refine q_dup dX5_numberToken_61 rfl ?_
        refine q_get dX5_numberToken_62 fX5_numberToken_23 (hat_set (hat_set hq)) rfl ?_
        refine q_iconst (v := 1) dX5_numberToken_65 rfl ?_
        refine q_iadd dX5_numberToken_66 ?_
        refine q_put dX5_numberToken_67 pX5_numberToken_23 (hat_set (hat_set hq)) rfl rfl (Nat.le_of_ble_eq_true rfl) ?_
        refine q_goto 5 dX5_numberToken_70 (by decide) ?_
        exact ih (a' + 1) (min 100 (v' * 10 + (t a' - 48))) _ (by omega) (by omega) (by omega) (by omega) (by rw [h4]; simp only [numS]; rw [if_pos ⟨by omega, bI_n.mp cL⟩]) (by rw [hset_hset, hset_hset, nI_s]; rfl)
  refine Con.of (by decide +kernel) rfl rfl (Nat.le_of_ble_eq_true rfl) ?_
  refine q_aload_n dX5_numberToken_0 rfl rfl ?_
  refine q_iconst (v := 0) dX5_numberToken_1 rfl ?_
  refine q_put dX5_numberToken_2 pX5_numberToken_50 (hq) rfl rfl (Nat.le_of_ble_eq_true rfl) ?_
  exact key (len - s) s 0 _ (by omega) (Nat.le_refl _) (by omega) rfl rfl rfl
theorem c_advance (hq : hat as h q (tq b len a s k v)) (hb : hat as h b (aI Γ 300 bx)) (ht : ∀ j, j < len → bx j = nI (t j) ∧ t j < 256) (hl : len ≤ 300) (ha : a ≤ len) : Det Γ l mX5_advance rX5_advance [.ref q] as h none (hset h q (tq b len (advF t len a v).1 (advF t len a v).2.1 (advF t len a v).2.2.1 (advF t len a v).2.2.2)) := by
  have e := hat_oa hq hb
  have key : ∀ (d a' : Nat) (h' : aH), a' ≤ len → len - a' = d → skp isBl t len (len - a) a = skp isBl t len d a' → h' = hset h q (tq b len a' s k v) → V Γ l mX5_advance rX5_advance (Zm Γ rX5_advance (qD none as (hset h q (tq b len (advF t len a v).1 (advF t len a v).2.1 (advF t len a v).2.2.1 (advF t len a v).2.2.2)))) 0 0 0 [(0, .ref q)] [] as h' := by
    have tail : ∀ a', a' ≤ len → skp isBl t len (len - a) a = a' → V Γ l mX5_advance rX5_advance (Zm Γ rX5_advance (qD none as (hset h q (tq b len (advF t len a v).1 (advF t len a v).2.1 (advF t len a v).2.2.1 (advF t len a v).2.2.2)))) 0 0 38 [(0, .ref q)] [] as (hset h q (tq b len a' s k v)) := by
      intro a' h1 h2
      have hA : advF t len a v = if len ≤ a' then (a', a', 0, v) else if t a' = 59 then (a' + 1, a', 3, v) else if isDg (t a') = true then ((numS t len (len - a') a' 0).1, a', numT t a' (numS t len (len - a') a' 0).1 (numS t len (len - a') a' 0).2, (numS t len (len - a') a' 0).2) else if isLt (t a') = true then (skp isLt t len (len - a') a', a', wTok t a' (skp isLt t len (len - a') a'), v) else (a', a', 1, v) := by
        unfold advF numT
        rw [h2]
      refine q_aload_n dX5_advance_38 rfl rfl ?_
      refine q_aload_n dX5_advance_39 rfl rfl ?_
      refine q_get dX5_advance_40 fX5_advance_23 (hat_set hq) rfl ?_
      refine q_put dX5_advance_43 pX5_advance_41 (hat_set hq) rfl rfl (Nat.le_of_ble_eq_true rfl) ?_
      refine q_aload_n dX5_advance_46 rfl rfl ?_
      refine q_get dX5_advance_47 fX5_advance_23 (hat_set (hat_set hq)) rfl ?_
      refine q_aload_n dX5_advance_50 rfl rfl ?_
      refine q_get dX5_advance_51 fX5_advance_15 (hat_set (hat_set hq)) rfl ?_
      refine q_icmp_lt 65 dX5_advance_54 (by decide) (fun cA => ?_) (fun cA => ?_)
      · have hn : a' < len := (nI_ltI (by omega) (by omega)).mp cA
        have hta := ht a' hn
        refine q_aload_n dX5_advance_65 rfl rfl ?_
        refine q_get dX5_advance_66 fX5_advance_11 (hat_set (hat_set hq)) rfl ?_
        refine q_aload_n dX5_advance_69 rfl rfl ?_
        refine q_get dX5_advance_70 fX5_advance_23 (hat_set (hat_set hq)) rfl ?_
        refine q_iald dX5_advance_73 (hat_ne (hat_ne hb e.symm) e.symm) (in_nI (show a' < 300 by omega) (by omega)) ?_
        refine q_bipush (v := 59) dX5_advance_74 rfl ?_
        rw [nI_clamp (by omega), hta.1]
        refine q_icmp_ne 97 dX5_advance_76 (by decide) (fun cB => ?_) (fun cB => ?_)
        · have h59 : ¬ t a' = 59 := fun w => cB (by rw [w]; rfl)
          refine q_aload_n dX5_advance_97 rfl rfl ?_
          refine q_get dX5_advance_98 fX5_advance_11 (hat_set (hat_set hq)) rfl ?_
          refine q_aload_n dX5_advance_101 rfl rfl ?_
          refine q_get dX5_advance_102 fX5_advance_23 (hat_set (hat_set hq)) rfl ?_
          refine q_iald dX5_advance_105 (hat_ne (hat_ne hb e.symm) e.symm) (in_nI (show a' < 300 by omega) (by omega)) ?_
          rw [nI_clamp (by omega), hta.1]
          refine q_callSd dX5_advance_106 wX5_advance_59 (c_isDigit hta.2) rfl rfl (Nat.le_of_ble_eq_true rfl) ⟨⟨Nat.le_of_ble_eq_true rfl, Nat.le_of_ble_eq_true rfl⟩, Nat.le_of_ble_eq_true rfl, Nat.le_of_ble_eq_true rfl⟩ ?_
          refine q_if_eq 123 dX5_advance_109 (by decide) (fun cC => ?_) (fun cC => ?_)
          · refine q_aload_n dX5_advance_123 rfl rfl ?_
            refine q_get dX5_advance_124 fX5_advance_11 (hat_set (hat_set hq)) rfl ?_
            refine q_aload_n dX5_advance_127 rfl rfl ?_
            refine q_get dX5_advance_128 fX5_advance_23 (hat_set (hat_set hq)) rfl ?_
            refine q_iald dX5_advance_131 (hat_ne (hat_ne hb e.symm) e.symm) (in_nI (show a' < 300 by omega) (by omega)) ?_
            rw [nI_clamp (by omega), hta.1]
            refine q_callSd dX5_advance_132 wX5_advance_66 (c_isLetter hta.2) rfl rfl (Nat.le_of_ble_eq_true rfl) ⟨⟨Nat.le_of_ble_eq_true rfl, Nat.le_of_ble_eq_true rfl⟩, Nat.le_of_ble_eq_true rfl, Nat.le_of_ble_eq_true rfl⟩ ?_
            refine q_if_eq 149 dX5_advance_135 (by decide) (fun cD => ?_) (fun cD => ?_)
            · refine q_aload_n dX5_advance_149 rfl rfl ?_
              refine q_iconst (v := 1) dX5_advance_150 rfl ?_
              refine q_put dX5_advance_151 pX5_advance_34 (hat_set (hat_set hq)) rfl rfl (Nat.le_of_ble_eq_true rfl) ?_
              exact q_vret dX5_advance_154 rfl (Nat.zero_le _) (Nat.zero_le _) (⟨rfl, rfl, by rw [hA]; first | (rw [if_pos hn]; simp only [hset_hset]; rfl) | (rw [if_neg (by omega), if_pos h59]; simp only [hset_hset, nI_s]; rfl) | (rw [if_neg (by omega), if_neg h59, if_neg (by rw [bI_0.mp cC]; decide), if_neg (by rw [bI_0.mp cD]; decide)]; simp only [hset_hset]; rfl) | (rw [if_neg (by omega), if_neg h59, if_neg (by rw [bI_0.mp cC]; decide), if_pos (bI_n.mp cD)]; simp only [hset_hset]; rfl) | (rw [if_neg (by omega), if_neg h59, if_pos (bI_n.mp cC)]; simp only [hset_hset]; rfl)⟩)
            · refine q_aload_n dX5_advance_138 rfl rfl ?_
              refine q_aload_n dX5_advance_139 rfl rfl ?_
              refine q_callVd dX5_advance_140 wX5_advance_69 (c_wordToken (hat_set (hat_set hq)) (hat_ne (hat_ne hb e.symm) e.symm) ht hl (Nat.le_refl _) h1) (hat_set (hat_set hq)) ⟨_, _, rfl⟩ rfl rfl (Nat.le_of_ble_eq_true rfl) ⟨⟨Nat.le_of_ble_eq_true rfl, Nat.le_of_ble_eq_true rfl⟩, Nat.le_of_ble_eq_true rfl, Nat.le_of_ble_eq_true rfl⟩ ?_
              refine q_put dX5_advance_143 pX5_advance_34 (hat_set (hat_set (hat_set hq))) rfl rfl (Nat.le_of_ble_eq_true rfl) ?_
              refine q_goto 154 dX5_advance_146 (by decide) ?_
              exact q_vret dX5_advance_154 rfl (Nat.zero_le _) (Nat.zero_le _) (⟨rfl, rfl, by rw [hA]; first | (rw [if_pos hn]; simp only [hset_hset]; rfl) | (rw [if_neg (by omega), if_pos h59]; simp only [hset_hset, nI_s]; rfl) | (rw [if_neg (by omega), if_neg h59, if_neg (by rw [bI_0.mp cC]; decide), if_neg (by rw [bI_0.mp cD]; decide)]; simp only [hset_hset]; rfl) | (rw [if_neg (by omega), if_neg h59, if_neg (by rw [bI_0.mp cC]; decide), if_pos (bI_n.mp cD)]; simp only [hset_hset]; rfl) | (rw [if_neg (by omega), if_neg h59, if_pos (bI_n.mp cC)]; simp only [hset_hset]; rfl)⟩)
          · refine q_aload_n dX5_advance_112 rfl rfl ?_
            refine q_aload_n dX5_advance_113 rfl rfl ?_
            refine q_callVd dX5_advance_114 wX5_advance_62 (c_numberToken (hat_set (hat_set hq)) (hat_ne (hat_ne hb e.symm) e.symm) ht hl hn) (hat_set (hat_set hq)) ⟨_, _, rfl⟩ rfl rfl (Nat.le_of_ble_eq_true rfl) ⟨⟨Nat.le_of_ble_eq_true rfl, Nat.le_of_ble_eq_true rfl⟩, Nat.le_of_ble_eq_true rfl, Nat.le_of_ble_eq_true rfl⟩ ?_
            refine q_put dX5_advance_117 pX5_advance_34 (hat_set (hat_set (hat_set hq))) rfl rfl (Nat.le_of_ble_eq_true rfl) ?_
            refine q_goto 154 dX5_advance_120 (by decide) ?_
            exact q_vret dX5_advance_154 rfl (Nat.zero_le _) (Nat.zero_le _) (⟨rfl, rfl, by rw [hA]; first | (rw [if_pos hn]; simp only [hset_hset]; rfl) | (rw [if_neg (by omega), if_pos h59]; simp only [hset_hset, nI_s]; rfl) | (rw [if_neg (by omega), if_neg h59, if_neg (by rw [bI_0.mp cC]; decide), if_neg (by rw [bI_0.mp cD]; decide)]; simp only [hset_hset]; rfl) | (rw [if_neg (by omega), if_neg h59, if_neg (by rw [bI_0.mp cC]; decide), if_pos (bI_n.mp cD)]; simp only [hset_hset]; rfl) | (rw [if_neg (by omega), if_neg h59, if_pos (bI_n.mp cC)]; simp only [hset_hset]; rfl)⟩)
        · have h59 : t a' = 59 := (nI_eq (b := 59) (by omega) (by omega)).mp cB
          refine q_aload_n dX5_advance_79 rfl rfl ?_
          refine q_dup dX5_advance_80 rfl ?_
          refine q_get dX5_advance_81 fX5_advance_23 (hat_set (hat_set hq)) rfl ?_
          refine q_iconst (v := 1) dX5_advance_84 rfl ?_
          refine q_iadd dX5_advance_85 ?_
          refine q_put dX5_advance_86 pX5_advance_23 (hat_set (hat_set hq)) rfl rfl (Nat.le_of_ble_eq_true rfl) ?_
          refine q_aload_n dX5_advance_89 rfl rfl ?_
          refine q_iconst (v := 3) dX5_advance_90 rfl ?_
          refine q_put dX5_advance_91 pX5_advance_34 (hat_set (hat_set (hat_set hq))) rfl rfl (Nat.le_of_ble_eq_true rfl) ?_
          refine q_goto 154 dX5_advance_94 (by decide) ?_
          exact q_vret dX5_advance_154 rfl (Nat.zero_le _) (Nat.zero_le _) (⟨rfl, rfl, by rw [hA]; first | (rw [if_pos hn]; simp only [hset_hset]; rfl) | (rw [if_neg (by omega), if_pos h59]; simp only [hset_hset, nI_s]; rfl) | (rw [if_neg (by omega), if_neg h59, if_neg (by rw [bI_0.mp cC]; decide), if_neg (by rw [bI_0.mp cD]; decide)]; simp only [hset_hset]; rfl) | (rw [if_neg (by omega), if_neg h59, if_neg (by rw [bI_0.mp cC]; decide), if_pos (bI_n.mp cD)]; simp only [hset_hset]; rfl) | (rw [if_neg (by omega), if_neg h59, if_pos (bI_n.mp cC)]; simp only [hset_hset]; rfl)⟩)
      · have hn : len ≤ a' := Nat.le_of_not_lt (fun w => cA (nI_lt w (by omega)))
        refine q_aload_n dX5_advance_57 rfl rfl ?_
        refine q_iconst (v := 0) dX5_advance_58 rfl ?_
        refine q_put dX5_advance_59 pX5_advance_34 (hat_set (hat_set hq)) rfl rfl (Nat.le_of_ble_eq_true rfl) ?_
        refine q_goto 154 dX5_advance_62 (by decide) ?_
        exact q_vret dX5_advance_154 rfl (Nat.zero_le _) (Nat.zero_le _) (⟨rfl, rfl, by rw [hA]; first | (rw [if_pos hn]; simp only [hset_hset]; rfl) | (rw [if_neg (by omega), if_pos h59]; simp only [hset_hset, nI_s]; rfl) | (rw [if_neg (by omega), if_neg h59, if_neg (by rw [bI_0.mp cC]; decide), if_neg (by rw [bI_0.mp cD]; decide)]; simp only [hset_hset]; rfl) | (rw [if_neg (by omega), if_neg h59, if_neg (by rw [bI_0.mp cC]; decide), if_pos (bI_n.mp cD)]; simp only [hset_hset]; rfl) | (rw [if_neg (by omega), if_neg h59, if_pos (bI_n.mp cC)]; simp only [hset_hset]; rfl)⟩)
    intro d
    induction d with
    | zero =>
      intro a' h' h1 h3 h4 hh
      subst hh
      refine q_aload_n dX5_advance_0 rfl rfl ?_
      refine q_get dX5_advance_1 fX5_advance_23 (hat_set hq) rfl ?_
      refine q_aload_n dX5_advance_4 rfl rfl ?_
      refine q_get dX5_advance_5 fX5_advance_15 (hat_set hq) rfl ?_
      refine q_icmp_ge 38 dX5_advance_8 (by decide) (fun _ => ?_) (fun z => absurd (nI_le (by omega) (by omega)) z)
      exact tail a' h1 h4
    | succ d ih =>
      intro a' h' h1 h3 h4 hh
      subst hh
      have hta := ht a' (by omega)
      refine q_aload_n dX5_advance_0 rfl rfl ?_
      refine q_get dX5_advance_1 fX5_advance_23 (hat_set hq) rfl ?_
      refine q_aload_n dX5_advance_4 rfl rfl ?_
      refine q_get dX5_advance_5 fX5_advance_15 (hat_set hq) rfl ?_
      refine q_icmp_ge 38 dX5_advance_8 (by decide) (fun z => absurd z (nI_ge (by omega) (by omega))) (fun _ => ?_)
      refine q_aload_n dX5_advance_11 rfl rfl ?_
      refine q_get dX5_advance_12 fX5_advance_11 (hat_set hq) rfl ?_
      refine q_aload_n dX5_advance_15 rfl rfl ?_
      refine q_get dX5_advance_16 fX5_advance_23 (hat_set hq) rfl ?_
      refine q_iald dX5_advance_19 (hat_ne hb e.symm) (in_nI (show a' < 300 by omega) (by omega)) ?_
      refine q_bipush (v := 32) dX5_advance_20 rfl ?_
      rw [nI_clamp (by omega), hta.1]
      refine q_icmp_ne 38 dX5_advance_22 (by decide) (fun cL => ?_) (fun cL => ?_)
      · have hb : isBl (t a') = false := by unfold isBl; rw [beq_eq_false_iff_ne]; exact fun w => cL (by rw [w]; rfl)
        exact tail a' h1 (by rw [h4]; simp only [skp]; rw [if_neg (by rw [hb]; exact fun z => absurd z.2 (by decide))])
      · have hb : isBl (t a') = true := by unfold isBl; rw [beq_iff_eq]; exact (nI_eq (b := 32) (by omega) (by omega)).mp cL
        refine q_aload_n dX5_advance_25 rfl rfl ?_
        refine q_dup dX5_advance_26 rfl ?_
        refine q_get dX5_advance_27 fX5_advance_23 (hat_set hq) rfl ?_
        refine q_iconst (v := 1) dX5_advance_30 rfl ?_
        refine q_iadd dX5_advance_31 ?_
        refine q_put dX5_advance_32 pX5_advance_23 (hat_set hq) rfl rfl (Nat.le_of_ble_eq_true rfl) ?_
        refine q_goto 0 dX5_advance_35 (by decide) ?_
        exact ih (a' + 1) _ (by omega) (by omega) (by rw [h4]; simp only [skp]; rw [if_pos ⟨by omega, hb⟩]) (by rw [hset_hset, nI_s]; rfl)
  refine Con.of (by decide +kernel) rfl rfl (Nat.le_of_ble_eq_true rfl) ?_
  exact key (len - a) a h ha rfl rfl (by rw [hset_same]; exact hq.2)
end

