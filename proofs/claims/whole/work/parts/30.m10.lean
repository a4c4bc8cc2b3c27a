/-! THE REFERENCE (X9): cheapest, changer, labour, images, counts -/
def cpF (f : Nat → Int32) (a b k : Nat) : Nat → Int32 := fun i => if 80 * b ≤ i ∧ i < 80 * b + k then f (80 * a + (i - 80 * b)) else f i
theorem cp_0 {f : Nat → Int32} {a b : Nat} : cpF f a b 0 = f := by
  funext i
  unfold cpF
  rw [if_neg (by omega)]
theorem cp_s {f : Nat → Int32} {a b k : Nat} (hab : a ≠ b) (hk : k < 80) : upd (cpF f a b k) (80 * b + k) (cpF f a b k (80 * a + k)) = cpF f a b (k + 1) := by
  funext i
  by_cases hi : i = 80 * b + k
  · subst hi
    rw [pk_us]
    unfold cpF
    rw [if_neg (by omega), if_pos (by omega), show 80 * b + k - 80 * b = k by omega]
  · rw [pk_un hi]
    unfold cpF
    by_cases h : 80 * b ≤ i ∧ i < 80 * b + k
    · rw [if_pos h, if_pos (by omega)]
    · rw [if_neg h, if_neg (by omega)]
def mlT (tc : Int64) : Nat → Int64
  | 0 => tc + 1
  | 1 => tc + 11
  | 2 => tc + 101
  | 3 => tc + 1101
  | 4 => tc + 10001
  | 5 => tc + 110001
  | _ => tc + 1000001
section
variable {Γ : gT} {l : Launch} {as : List Nat} {h : aH} {m : Nat} {tc : Int64} {r : Nat → Nat} {z : Nat → Int32} {n k lim : Nat} {f u c ya lw x o lo mt kp : Nat → Int32}
theorem n_cheapest_bad {a b q : Int32} (hb : (a < 0 ∨ 999 < a) ∨ (b < 0 ∨ 999 < b) ∨ (q < 0 ∨ 1 < q)) : Det Γ l mX9_cheapest rX9_cheapest [.ref m, .int a, .int b, .int q] as h (some (.int (-1))) h := by
  refine Con.of (by decide +kernel) rfl rfl (Nat.le_of_ble_eq_true rfl) ?_
  refine q_iload_n dX9_cheapest_0 rfl rfl ?_
  refine q_i2l dX9_cheapest_1 ?_
  refine q_lconst (v := 0) dX9_cheapest_2 rfl ?_
  refine q_ldc2 (v := 999) dX9_cheapest_3 (by decide +kernel) ?_
  refine q_callSd dX9_cheapest_6 wX9_cheapest_60 (n_in) rfl rfl (Nat.le_of_ble_eq_true rfl) ⟨⟨Nat.le_of_ble_eq_true rfl, Nat.le_of_ble_eq_true rfl⟩, Nat.le_of_ble_eq_true rfl, Nat.le_of_ble_eq_true rfl⟩ ?_
  refine q_if_eq 34 dX9_cheapest_9 (by decide) (fun cA => ?_) (fun cA => ?_)
  · refine q_iconst (v := (-1)) dX9_cheapest_34 rfl ?_
    exact q_iret dX9_cheapest_35 rfl (Nat.zero_le _) (Nat.zero_le _) (⟨rfl, rfl, rfl⟩)
  · refine q_iload_n dX9_cheapest_12 rfl rfl ?_
    refine q_i2l dX9_cheapest_13 ?_
    refine q_lconst (v := 0) dX9_cheapest_14 rfl ?_
    refine q_ldc2 (v := 999) dX9_cheapest_15 (by decide +kernel) ?_
    refine q_callSd dX9_cheapest_18 wX9_cheapest_60 (n_in) rfl rfl (Nat.le_of_ble_eq_true rfl) ⟨⟨Nat.le_of_ble_eq_true rfl, Nat.le_of_ble_eq_true rfl⟩, Nat.le_of_ble_eq_true rfl, Nat.le_of_ble_eq_true rfl⟩ ?_
    refine q_if_eq 34 dX9_cheapest_21 (by decide) (fun cB => ?_) (fun cB => ?_)
    · refine q_iconst (v := (-1)) dX9_cheapest_34 rfl ?_
      exact q_iret dX9_cheapest_35 rfl (Nat.zero_le _) (Nat.zero_le _) (⟨rfl, rfl, rfl⟩)
    · refine q_iload_n dX9_cheapest_24 rfl rfl ?_
      refine q_i2l dX9_cheapest_25 ?_
      refine q_lconst (v := 0) dX9_cheapest_26 rfl ?_
      refine q_lconst (v := 1) dX9_cheapest_27 rfl ?_
      refine q_callSd dX9_cheapest_28 wX9_cheapest_60 (n_in) rfl rfl (Nat.le_of_ble_eq_true rfl) ⟨⟨Nat.le_of_ble_eq_true rfl, Nat.le_of_ble_eq_true rfl⟩, Nat.le_of_ble_eq_true rfl, Nat.le_of_ble_eq_true rfl⟩ ?_
      refine q_if_ne 36 dX9_cheapest_31 (by decide) (fun cC => ?_) (fun cC => ?_)
      · exact absurd hb (by rintro (e | e | e); exact cA (by rw [inB_no (a := 0) (b := 999) (by decide) (by decide) e]; rfl); exact cB (by rw [inB_no (a := 0) (b := 999) (by decide) (by decide) e]; rfl); exact cC (by rw [inB_no (a := 0) (b := 1) (by decide) (by decide) e]; rfl))
      · refine q_iconst (v := (-1)) dX9_cheapest_34 rfl ?_
        exact q_iret dX9_cheapest_35 rfl (Nat.zero_le _) (Nat.zero_le _) (⟨rfl, rfl, rfl⟩)
theorem n_cheapest {a b : Nat} {q : Int32} (ha : a ≤ 999) (hb : b ≤ 999) (hq : isUL q = true) (hM : hat as h m (mo tc r z)) (hu : hat as h (r 17) (aI Γ 6 u)) (hlw : hat as h (r 23) (aI Γ 27 lw)) : Det Γ l mX9_cheapest rX9_cheapest [.ref m, .int (nI a), .int (nI b), .int q] as h (some (.int (if mCh lw (u 1) (u 2) (nI a) (nI b) 512 = -9 ∨ q = 1 then mCh lw (u 1) (u 2) (nI a) (nI b) 512 else lawS lw (mCh lw (u 1) (u 2) (nI a) (nI b) 512) 0 9))) h := by
  have key : ∀ (d k : Nat) (v4 v5 : Int32) (ls : List (Nat × Value)), k + d = 512 → v4 = mCh lw (u 1) (u 2) (nI a) (nI b) k → v5 = nI k → lin ls [(0, .ref m), (1, .int (nI a)), (2, .int (nI b)), (3, .int q), (4, .int v4), (5, .int v5)] → V Γ l mX9_cheapest rX9_cheapest (Zm Γ rX9_cheapest (qD (some (.int (if mCh lw (u 1) (u 2) (nI a) (nI b) 512 = -9 ∨ q = 1 then mCh lw (u 1) (u 2) (nI a) (nI b) 512 else lawS lw (mCh lw (u 1) (u 2) (nI a) (nI b) 512) 0 9))) as h)) 0 0 43 ls [] as h := by
    intro d
    induction d with
    | zero =>
      intro k v4 v5 ls hk e4 e5 hl
      have hk5 : k = 512 := by omega
      subst hk5 e4 e5
      refine V.at ?_ hl
      refine q_iload dX9_cheapest_43 rfl ?_
      refine q_sipush (v := 512) dX9_cheapest_45 rfl ?_
      refine q_icmp_ge 138 dX9_cheapest_48 (by decide) (fun _ => ?_) (fun z => absurd (Int32.le_refl _) z)
      refine q_iload dX9_cheapest_138 rfl ?_
      refine q_bipush (v := (-9)) dX9_cheapest_140 rfl ?_
      refine q_icmp_eq 150 dX9_cheapest_142 (by decide) (fun cA => ?_) (fun cA => ?_)
      · refine q_iload dX9_cheapest_150 rfl ?_
        refine q_goto 162 dX9_cheapest_152 (by decide) ?_
        exact q_iret dX9_cheapest_162 rfl (Nat.zero_le _) (Nat.zero_le _) ⟨by rw [if_pos (by first | exact Or.inr cB | exact Or.inl cA)], rfl, rfl⟩
      · refine q_iload_n dX9_cheapest_145 rfl rfl ?_
        refine q_iconst (v := 1) dX9_cheapest_146 rfl ?_
        refine q_icmp_ne 155 dX9_cheapest_147 (by decide) (fun cB => ?_) (fun cB => ?_)
        · refine q_aload_n dX9_cheapest_155 rfl rfl ?_
          refine q_iload dX9_cheapest_156 rfl ?_
          refine q_iconst (v := 0) dX9_cheapest_158 rfl ?_
          refine q_callVd dX9_cheapest_159 wX9_cheapest_216 (n_sumOf (w := 0) (by omega) hM hlw) (hM) ⟨_, _, rfl⟩ rfl rfl (Nat.le_of_ble_eq_true rfl) ⟨⟨Nat.le_of_ble_eq_true rfl, Nat.le_of_ble_eq_true rfl⟩, Nat.le_of_ble_eq_true rfl, Nat.le_of_ble_eq_true rfl⟩ ?_
          exact q_iret dX9_cheapest_162 rfl (Nat.zero_le _) (Nat.zero_le _) (⟨by rw [if_neg (by rintro (e | e); exact cA e; exact cB e)], rfl, rfl⟩)
        · refine q_iload dX9_cheapest_150 rfl ?_
          refine q_goto 162 dX9_cheapest_152 (by decide) ?_
          exact q_iret dX9_cheapest_162 rfl (Nat.zero_le _) (Nat.zero_le _) ⟨by rw [if_pos (by first | exact Or.inr cB | exact Or.inl cA)], rfl, rfl⟩
    | succ d ih =>
      intro k v4 v5 ls hk e4 e5 hl
      subst e4 e5
      refine V.at ?_ hl
      have tail : ∀ b6 : Bool, (b6 = true ↔ (u 1 - lawS lw (nI k) 1 9 ≤ nI a ∧ nI b ≤ u 2 + lawS lw (nI k) 2 9)) → V Γ l mX9_cheapest rX9_cheapest (Zm Γ rX9_cheapest (qD (some (.int (if mCh lw (u 1) (u 2) (nI a) (nI b) 512 = -9 ∨ q = 1 then mCh lw (u 1) (u 2) (nI a) (nI b) 512 else lawS lw (mCh lw (u 1) (u 2) (nI a) (nI b) 512) 0 9))) as h)) 0 0 92 [(0, .ref m), (1, .int (nI a)), (2, .int (nI b)), (3, .int q), (4, .int (mCh lw (u 1) (u 2) (nI a) (nI b) k)), (5, .int (nI k))] [.int (bI b6)] as h := by
        intro b6 hb6
        refine q_istore dX9_cheapest_92 (by decide) ?_
        refine q_iload dX9_cheapest_94 rfl ?_
        refine q_if_eq 128 dX9_cheapest_96 (by decide) (fun cA => ?_) (fun cA => ?_)
        · have ef : mCh lw (u 1) (u 2) (nI a) (nI b) (k + 1) = mCh lw (u 1) (u 2) (nI a) (nI b) k := by
            simp only [mCh]
            refine if_neg (fun e => ?_)
            first | exact absurd (hb6.mpr e.1) (by rw [bI_0.mp cA]; decide) | exact e.2.elim cB (fun q => absurd q (Int32.not_lt.mpr cC))
          refine q_iload dX9_cheapest_128 rfl ?_
          refine q_istore dX9_cheapest_130 (by decide) ?_
          refine q_iinc1 dX9_cheapest_132 rfl (by decide) ?_
          refine q_goto 43 dX9_cheapest_135 (by decide) ?_
          exact ih (k + 1) _ _ _ (by omega) ef.symm (nI_s k) ⟨rfl, rfl, rfl, rfl, rfl, rfl, trivial⟩
        · refine q_iload dX9_cheapest_99 rfl ?_
          refine q_bipush (v := (-9)) dX9_cheapest_101 rfl ?_
          refine q_icmp_eq 123 dX9_cheapest_103 (by decide) (fun cB => ?_) (fun cB => ?_)
          · have ef : mCh lw (u 1) (u 2) (nI a) (nI b) (k + 1) = nI k := by
              simp only [mCh]
              refine if_pos ⟨hb6.mp (bI_n.mp cA), ?_⟩
              first | exact Or.inr (Int32.not_le.mp cC) | exact Or.inl cB
            refine q_iload dX9_cheapest_123 rfl ?_
            refine q_goto 130 dX9_cheapest_125 (by decide) ?_
            refine q_istore dX9_cheapest_130 (by decide) ?_
            refine q_iinc1 dX9_cheapest_132 rfl (by decide) ?_
            refine q_goto 43 dX9_cheapest_135 (by decide) ?_
            exact ih (k + 1) _ _ _ (by omega) ef.symm (nI_s k) ⟨rfl, rfl, rfl, rfl, rfl, rfl, trivial⟩
          · refine q_aload_n dX9_cheapest_106 rfl rfl ?_
            refine q_iload dX9_cheapest_107 rfl ?_
            refine q_iconst (v := 0) dX9_cheapest_109 rfl ?_
            refine q_callVd dX9_cheapest_110 wX9_cheapest_216 (n_sumOf (w := 0) (by omega) hM hlw) (hM) ⟨_, _, rfl⟩ rfl rfl (Nat.le_of_ble_eq_true rfl) ⟨⟨Nat.le_of_ble_eq_true rfl, Nat.le_of_ble_eq_true rfl⟩, Nat.le_of_ble_eq_true rfl, Nat.le_of_ble_eq_true rfl⟩ ?_
            refine q_aload_n dX9_cheapest_113 rfl rfl ?_
            refine q_iload dX9_cheapest_114 rfl ?_
            refine q_iconst (v := 0) dX9_cheapest_116 rfl ?_
            refine q_callVd dX9_cheapest_117 wX9_cheapest_216 (n_sumOf (w := 0) (by omega) hM hlw) (hM) ⟨_, _, rfl⟩ rfl rfl (Nat.le_of_ble_eq_true rfl) ⟨⟨Nat.le_of_ble_eq_true rfl, Nat.le_of_ble_eq_true rfl⟩, Nat.le_of_ble_eq_true rfl, Nat.le_of_ble_eq_true rfl⟩ ?_
            refine q_icmp_ge 128 dX9_cheapest_120 (by decide) (fun cC => ?_) (fun cC => ?_)
            · have ef : mCh lw (u 1) (u 2) (nI a) (nI b) (k + 1) = mCh lw (u 1) (u 2) (nI a) (nI b) k := by
                simp only [mCh]
                refine if_neg (fun e => ?_)
                first | exact absurd (hb6.mpr e.1) (by rw [bI_0.mp cA]; decide) | exact e.2.elim cB (fun q => absurd q (Int32.not_lt.mpr cC))
              refine q_iload dX9_cheapest_128 rfl ?_
              refine q_istore dX9_cheapest_130 (by decide) ?_
              refine q_iinc1 dX9_cheapest_132 rfl (by decide) ?_
              refine q_goto 43 dX9_cheapest_135 (by decide) ?_
              exact ih (k + 1) _ _ _ (by omega) ef.symm (nI_s k) ⟨rfl, rfl, rfl, rfl, rfl, rfl, trivial⟩
            · have ef : mCh lw (u 1) (u 2) (nI a) (nI b) (k + 1) = nI k := by
                simp only [mCh]
                refine if_pos ⟨hb6.mp (bI_n.mp cA), ?_⟩
                first | exact Or.inr (Int32.not_le.mp cC) | exact Or.inl cB
              refine q_iload dX9_cheapest_123 rfl ?_
              refine q_goto 130 dX9_cheapest_125 (by decide) ?_
              refine q_istore dX9_cheapest_130 (by decide) ?_
              refine q_iinc1 dX9_cheapest_132 rfl (by decide) ?_
              refine q_goto 43 dX9_cheapest_135 (by decide) ?_
              exact ih (k + 1) _ _ _ (by omega) ef.symm (nI_s k) ⟨rfl, rfl, rfl, rfl, rfl, rfl, trivial⟩
      refine q_iload dX9_cheapest_43 rfl ?_
      refine q_sipush (v := 512) dX9_cheapest_45 rfl ?_
      refine q_icmp_ge 138 dX9_cheapest_48 (by decide) (fun z => absurd z (lt_c 512 rfl (by omega) (by omega))) (fun _ => ?_)
      refine q_aload_n dX9_cheapest_51 rfl rfl ?_
      refine q_get dX9_cheapest_52 fX9_cheapest_39 (hM) rfl ?_
      refine q_iconst (v := 1) dX9_cheapest_55 rfl ?_
      refine q_iald dX9_cheapest_56 (hu) (in_nI (k := 1) (by omega) (by omega)) ?_
      refine q_aload_n dX9_cheapest_57 rfl rfl ?_
      refine q_iload dX9_cheapest_58 rfl ?_
      refine q_iconst (v := 1) dX9_cheapest_60 rfl ?_
      refine q_callVd dX9_cheapest_61 wX9_cheapest_216 (n_sumOf (w := 1) (by omega) hM hlw) (hM) ⟨_, _, rfl⟩ rfl rfl (Nat.le_of_ble_eq_true rfl) ⟨⟨Nat.le_of_ble_eq_true rfl, Nat.le_of_ble_eq_true rfl⟩, Nat.le_of_ble_eq_true rfl, Nat.le_of_ble_eq_true rfl⟩ ?_
      refine q_isub dX9_cheapest_64 ?_
      refine q_iload_n dX9_cheapest_65 rfl rfl ?_
      refine q_icmp_gt 91 dX9_cheapest_66 (by decide) (fun cA => ?_) (fun cA => ?_)
      · refine q_iconst (v := 0) dX9_cheapest_91 rfl ?_
        refine V.at (tail false ⟨fun e => absurd e (by decide), fun e => ?_⟩) ⟨rfl, rfl, rfl, rfl, rfl, rfl, trivial⟩
        first | exact absurd e.2 (Int32.not_le.mpr cB) | exact absurd e.1 (Int32.not_le.mpr cA)
      · refine q_aload_n dX9_cheapest_69 rfl rfl ?_
        refine q_get dX9_cheapest_70 fX9_cheapest_39 (hM) rfl ?_
        refine q_iconst (v := 2) dX9_cheapest_73 rfl ?_
        refine q_iald dX9_cheapest_74 (hu) (in_nI (k := 2) (by omega) (by omega)) ?_
        refine q_aload_n dX9_cheapest_75 rfl rfl ?_
        refine q_iload dX9_cheapest_76 rfl ?_
        refine q_iconst (v := 2) dX9_cheapest_78 rfl ?_
        refine q_callVd dX9_cheapest_79 wX9_cheapest_216 (n_sumOf (w := 2) (by omega) hM hlw) (hM) ⟨_, _, rfl⟩ rfl rfl (Nat.le_of_ble_eq_true rfl) ⟨⟨Nat.le_of_ble_eq_true rfl, Nat.le_of_ble_eq_true rfl⟩, Nat.le_of_ble_eq_true rfl, Nat.le_of_ble_eq_true rfl⟩ ?_
        refine q_iadd dX9_cheapest_82 ?_
        refine q_iload_n dX9_cheapest_83 rfl rfl ?_
        refine q_icmp_lt 91 dX9_cheapest_84 (by decide) (fun cB => ?_) (fun cB => ?_)
        · refine q_iconst (v := 0) dX9_cheapest_91 rfl ?_
          refine V.at (tail false ⟨fun e => absurd e (by decide), fun e => ?_⟩) ⟨rfl, rfl, rfl, rfl, rfl, rfl, trivial⟩
          first | exact absurd e.2 (Int32.not_le.mpr cB) | exact absurd e.1 (Int32.not_le.mpr cA)
        · refine q_iconst (v := 1) dX9_cheapest_87 rfl ?_
          refine q_goto 92 dX9_cheapest_88 (by decide) ?_
          exact V.at (tail true ⟨fun _ => ⟨Int32.not_lt.mp cA, Int32.not_lt.mp cB⟩, fun _ => rfl⟩) ⟨rfl, rfl, rfl, rfl, rfl, rfl, trivial⟩
  refine Con.of (by decide +kernel) rfl rfl (Nat.le_of_ble_eq_true rfl) ?_
  refine q_iload_n dX9_cheapest_0 rfl rfl ?_
  refine q_i2l dX9_cheapest_1 ?_
  refine q_lconst (v := 0) dX9_cheapest_2 rfl ?_
  refine q_ldc2 (v := 999) dX9_cheapest_3 (by decide +kernel) ?_
  refine q_callSd dX9_cheapest_6 wX9_cheapest_60 (n_in) rfl rfl (Nat.le_of_ble_eq_true rfl) ⟨⟨Nat.le_of_ble_eq_true rfl, Nat.le_of_ble_eq_true rfl⟩, Nat.le_of_ble_eq_true rfl, Nat.le_of_ble_eq_true rfl⟩ ?_
  refine q_if_eq 34 dX9_cheapest_9 (by decide) (fun z => absurd z (by rw [inB_nI (a := 0) (b := 999) (by decide) (by decide) (by omega) ha (by omega)]; decide)) (fun _ => ?_)
  refine q_iload_n dX9_cheapest_12 rfl rfl ?_
  refine q_i2l dX9_cheapest_13 ?_
  refine q_lconst (v := 0) dX9_cheapest_14 rfl ?_
  refine q_ldc2 (v := 999) dX9_cheapest_15 (by decide +kernel) ?_
  refine q_callSd dX9_cheapest_18 wX9_cheapest_60 (n_in) rfl rfl (Nat.le_of_ble_eq_true rfl) ⟨⟨Nat.le_of_ble_eq_true rfl, Nat.le_of_ble_eq_true rfl⟩, Nat.le_of_ble_eq_true rfl, Nat.le_of_ble_eq_true rfl⟩ ?_
  refine q_if_eq 34 dX9_cheapest_21 (by decide) (fun z => absurd z (by rw [inB_nI (a := 0) (b := 999) (by decide) (by decide) (by omega) hb (by omega)]; decide)) (fun _ => ?_)
  refine q_iload_n dX9_cheapest_24 rfl rfl ?_
  refine q_i2l dX9_cheapest_25 ?_
  refine q_lconst (v := 0) dX9_cheapest_26 rfl ?_
  refine q_lconst (v := 1) dX9_cheapest_27 rfl ?_
  refine q_callSd dX9_cheapest_28 wX9_cheapest_60 (n_in) rfl rfl (Nat.le_of_ble_eq_true rfl) ⟨⟨Nat.le_of_ble_eq_true rfl, Nat.le_of_ble_eq_true rfl⟩, Nat.le_of_ble_eq_true rfl, Nat.le_of_ble_eq_true rfl⟩ ?_
  refine q_if_ne 36 dX9_cheapest_31 (by decide) (fun _ => ?_) (fun z => absurd z (by rw [inB_UL, hq]; decide))
  refine q_bipush (v := (-9)) dX9_cheapest_36 rfl ?_
  refine q_istore dX9_cheapest_38 (by decide) ?_
  refine q_iconst (v := 0) dX9_cheapest_40 rfl ?_
  refine q_istore dX9_cheapest_41 (by decide) ?_
  exact key 512 0 _ _ _ (by omega) rfl rfl ⟨rfl, rfl, rfl, rfl, rfl, rfl, trivial⟩
theorem n_changer_bad {p q s : Int32} (hb : isP n p = false ∨ isC q = false ∨ isUL s = false) (hM : hat as h m (mo tc r z)) (hn : z 3 = nI n) (hn8 : n ≤ 8) : Det Γ l mX9_changer rX9_changer [.ref m, .int p, .int q, .int s] as h (some (.int (-1))) h := by
  refine Con.of (by decide +kernel) rfl rfl (Nat.le_of_ble_eq_true rfl) ?_
  refine q_aload_n dX9_changer_0 rfl rfl ?_
  refine q_iload_n dX9_changer_1 rfl rfl ?_
  refine q_callVd dX9_changer_2 wX9_changer_117 (n_isPerson hM hn hn8) (hM) ⟨_, _, rfl⟩ rfl rfl (Nat.le_of_ble_eq_true rfl) ⟨⟨Nat.le_of_ble_eq_true rfl, Nat.le_of_ble_eq_true rfl⟩, Nat.le_of_ble_eq_true rfl, Nat.le_of_ble_eq_true rfl⟩ ?_
  refine q_if_eq 30 dX9_changer_5 (by decide) (fun cA => ?_) (fun cA => ?_)
  · refine q_iconst (v := (-1)) dX9_changer_30 rfl ?_
    exact q_iret dX9_changer_31 rfl (Nat.zero_le _) (Nat.zero_le _) (⟨rfl, rfl, rfl⟩)
  · refine q_iload_n dX9_changer_8 rfl rfl ?_
    refine q_i2l dX9_changer_9 ?_
    refine q_lconst (v := 0) dX9_changer_10 rfl ?_
    refine q_ldc2 (v := 99) dX9_changer_11 (by decide +kernel) ?_
    refine q_callSd dX9_changer_14 wX9_changer_60 (n_in) rfl rfl (Nat.le_of_ble_eq_true rfl) ⟨⟨Nat.le_of_ble_eq_true rfl, Nat.le_of_ble_eq_true rfl⟩, Nat.le_of_ble_eq_true rfl, Nat.le_of_ble_eq_true rfl⟩ ?_
    rw [show inB q.toInt64 0 99 = isC q from inB_i (a := 0) (b := 99) (by decide) (by decide)]
    refine q_if_eq 30 dX9_changer_17 (by decide) (fun cB => ?_) (fun cB => ?_)
    · refine q_iconst (v := (-1)) dX9_changer_30 rfl ?_
      exact q_iret dX9_changer_31 rfl (Nat.zero_le _) (Nat.zero_le _) (⟨rfl, rfl, rfl⟩)
    · refine q_iload_n dX9_changer_20 rfl rfl ?_
      refine q_i2l dX9_changer_21 ?_
      refine q_lconst (v := 0) dX9_changer_22 rfl ?_
      refine q_lconst (v := 1) dX9_changer_23 rfl ?_
      refine q_callSd dX9_changer_24 wX9_changer_60 (n_in) rfl rfl (Nat.le_of_ble_eq_true rfl) ⟨⟨Nat.le_of_ble_eq_true rfl, Nat.le_of_ble_eq_true rfl⟩, Nat.le_of_ble_eq_true rfl, Nat.le_of_ble_eq_true rfl⟩ ?_
      rw [inB_UL]
      refine q_if_ne 32 dX9_changer_27 (by decide) (fun cC => ?_) (fun cC => ?_)
      · exact absurd hb (by rintro (e | e | e); exact cA (by rw [e]; rfl); exact cB (by rw [e]; rfl); exact cC (by rw [e]; rfl))
      · refine q_iconst (v := (-1)) dX9_changer_30 rfl ?_
        exact q_iret dX9_changer_31 rfl (Nat.zero_le _) (Nat.zero_le _) (⟨rfl, rfl, rfl⟩)
theorem cmS_le {p : Nat} {q : Int32} : ∀ k, cmS f u p q k ≤ k := by
  intro k
  induction k with
  | zero => exact Nat.le_refl _
  | succ k ih =>
    simp only [cmS]
    split <;> omega
theorem n_changer {p : Nat} {q s : Int32} (hp : p < n) (hn8 : n ≤ 8) (hq : isC q = true) (hs : isUL s = true) (hM : hat as h m (mo tc r z)) (hn : z 3 = nI n) (hf : hat as h (r 13) (aI Γ 240 f)) (hu : hat as h (r 17) (aI Γ 6 u)) : Det Γ l mX9_changer rX9_changer [.ref m, .int (nI p), .int q, .int s] as h (some (.int (if s = 0 then nI (cmS f u p q 10) else hmF f u p (nI (cmS f u p q 10)) q))) h := by
  have hp8 : p < 8 := by omega
  have key : ∀ (d k : Nat) (v4 v5 : Int32) (ls : List (Nat × Value)), k + d = 10 → v4 = nI (cmS f u p q k) → v5 = nI (k + 1) → lin ls [(0, .ref m), (1, .int (nI p)), (2, .int q), (3, .int s), (4, .int v4), (5, .int v5)] → V Γ l mX9_changer rX9_changer (Zm Γ rX9_changer (qD (some (.int (if s = 0 then nI (cmS f u p q 10) else hmF f u p (nI (cmS f u p q 10)) q))) as h)) 0 0 38 ls [] as h := by
    intro d
    induction d with
    | zero =>
      intro k v4 v5 ls hk e4 e5 hl
      have hk5 : k = 10 := by omega
      subst hk5 e4 e5
      refine V.at ?_ hl
      refine q_iload dX9_changer_38 rfl ?_
      refine q_bipush (v := 10) dX9_changer_40 rfl ?_
      refine q_icmp_gt 79 dX9_changer_42 (by decide) (fun _ => ?_) (fun z => absurd (nI_lt (a := 10) (by omega) (by omega)) z)
      refine q_iload_n dX9_changer_79 rfl rfl ?_
      refine q_if_ne 88 dX9_changer_80 (by decide) (fun cQ => ?_) (fun cQ => ?_)
      · refine q_aload_n dX9_changer_88 rfl rfl ?_
        refine q_iload_n dX9_changer_89 rfl rfl ?_
        refine q_iload_n dX9_changer_90 rfl rfl ?_
        refine q_iload dX9_changer_91 rfl ?_
        refine q_callVd dX9_changer_93 wX9_changer_210 (n_heldAt hp8 hM hf hu) (hM) ⟨_, _, rfl⟩ rfl rfl (Nat.le_of_ble_eq_true rfl) ⟨⟨Nat.le_of_ble_eq_true rfl, Nat.le_of_ble_eq_true rfl⟩, Nat.le_of_ble_eq_true rfl, Nat.le_of_ble_eq_true rfl⟩ ?_
        exact q_iret dX9_changer_96 rfl (Nat.zero_le _) (Nat.zero_le _) (⟨by first | rw [if_pos cQ] | rw [if_neg cQ], rfl, rfl⟩)
      · refine q_iload dX9_changer_83 rfl ?_
        refine q_goto 96 dX9_changer_85 (by decide) ?_
        exact q_iret dX9_changer_96 rfl (Nat.zero_le _) (Nat.zero_le _) (⟨by first | rw [if_pos cQ] | rw [if_neg cQ], rfl, rfl⟩)
    | succ d ih =>
      intro k v4 v5 ls hk e4 e5 hl
      subst e4 e5
      refine V.at ?_ hl
      refine q_iload dX9_changer_38 rfl ?_
      refine q_bipush (v := 10) dX9_changer_40 rfl ?_
      refine q_icmp_gt 79 dX9_changer_42 (by decide) (fun z => absurd z (nI_nlt (a := 10) (by omega) (by omega))) (fun _ => ?_)
      refine q_aload_n dX9_changer_45 rfl rfl ?_
      refine q_iload_n dX9_changer_46 rfl rfl ?_
      refine q_iload_n dX9_changer_47 rfl rfl ?_
      refine q_iload dX9_changer_48 rfl ?_
      refine q_callVd dX9_changer_50 wX9_changer_210 (n_heldAt hp8 hM hf hu) (hM) ⟨_, _, rfl⟩ rfl rfl (Nat.le_of_ble_eq_true rfl) ⟨⟨Nat.le_of_ble_eq_true rfl, Nat.le_of_ble_eq_true rfl⟩, Nat.le_of_ble_eq_true rfl, Nat.le_of_ble_eq_true rfl⟩ ?_
      refine q_aload_n dX9_changer_53 rfl rfl ?_
      refine q_iload_n dX9_changer_54 rfl rfl ?_
      refine q_iload_n dX9_changer_55 rfl rfl ?_
      refine q_iload dX9_changer_56 rfl ?_
      refine q_callVd dX9_changer_58 wX9_changer_210 (n_heldAt hp8 hM hf hu) (hM) ⟨_, _, rfl⟩ rfl rfl (Nat.le_of_ble_eq_true rfl) ⟨⟨Nat.le_of_ble_eq_true rfl, Nat.le_of_ble_eq_true rfl⟩, Nat.le_of_ble_eq_true rfl, Nat.le_of_ble_eq_true rfl⟩ ?_
      refine q_icmp_lt 69 dX9_changer_61 (by decide) (fun cA => ?_) (fun cA => ?_)
      · refine q_iload dX9_changer_69 rfl ?_
        refine q_istore dX9_changer_71 (by decide) ?_
        refine q_iinc1 dX9_changer_73 rfl (by decide) ?_
        refine q_goto 38 dX9_changer_76 (by decide) ?_
        exact ih (k + 1) _ _ _ (by omega) (by simp only [cmS]; first | rw [if_pos cA] | rw [if_neg cA]) (nI_s (k + 1)) ⟨rfl, rfl, rfl, rfl, rfl, rfl, trivial⟩
      · refine q_iload dX9_changer_64 rfl ?_
        refine q_goto 71 dX9_changer_66 (by decide) ?_
        refine q_istore dX9_changer_71 (by decide) ?_
        refine q_iinc1 dX9_changer_73 rfl (by decide) ?_
        refine q_goto 38 dX9_changer_76 (by decide) ?_
        exact ih (k + 1) _ _ _ (by omega) (by simp only [cmS]; first | rw [if_pos cA] | rw [if_neg cA]) (nI_s (k + 1)) ⟨rfl, rfl, rfl, rfl, rfl, rfl, trivial⟩
  refine Con.of (by decide +kernel) rfl rfl (Nat.le_of_ble_eq_true rfl) ?_
  refine q_aload_n dX9_changer_0 rfl rfl ?_
  refine q_iload_n dX9_changer_1 rfl rfl ?_
  refine q_callVd dX9_changer_2 wX9_changer_117 (n_isPerson hM hn hn8) (hM) ⟨_, _, rfl⟩ rfl rfl (Nat.le_of_ble_eq_true rfl) ⟨⟨Nat.le_of_ble_eq_true rfl, Nat.le_of_ble_eq_true rfl⟩, Nat.le_of_ble_eq_true rfl, Nat.le_of_ble_eq_true rfl⟩ ?_
  refine q_if_eq 30 dX9_changer_5 (by decide) (fun z => absurd z (by rw [isP_nI hp hn8]; decide)) (fun _ => ?_)
  refine q_iload_n dX9_changer_8 rfl rfl ?_
  refine q_i2l dX9_changer_9 ?_
  refine q_lconst (v := 0) dX9_changer_10 rfl ?_
  refine q_ldc2 (v := 99) dX9_changer_11 (by decide +kernel) ?_
  refine q_callSd dX9_changer_14 wX9_changer_60 (n_in) rfl rfl (Nat.le_of_ble_eq_true rfl) ⟨⟨Nat.le_of_ble_eq_true rfl, Nat.le_of_ble_eq_true rfl⟩, Nat.le_of_ble_eq_true rfl, Nat.le_of_ble_eq_true rfl⟩ ?_
  refine q_if_eq 30 dX9_changer_17 (by decide) (fun z => absurd z (by rw [show inB q.toInt64 0 99 = isC q from inB_i (a := 0) (b := 99) (by decide) (by decide), hq]; decide)) (fun _ => ?_)
  refine q_iload_n dX9_changer_20 rfl rfl ?_
  refine q_i2l dX9_changer_21 ?_
  refine q_lconst (v := 0) dX9_changer_22 rfl ?_
  refine q_lconst (v := 1) dX9_changer_23 rfl ?_
  refine q_callSd dX9_changer_24 wX9_changer_60 (n_in) rfl rfl (Nat.le_of_ble_eq_true rfl) ⟨⟨Nat.le_of_ble_eq_true rfl, Nat.le_of_ble_eq_true rfl⟩, Nat.le_of_ble_eq_true rfl, Nat.le_of_ble_eq_true rfl⟩ ?_
  refine q_if_ne 32 dX9_changer_27 (by decide) (fun _ => ?_) (fun z => absurd z (by rw [inB_UL, hs]; decide))
  refine q_iconst (v := 0) dX9_changer_32 rfl ?_
  refine q_istore dX9_changer_33 (by decide) ?_
  refine q_iconst (v := 1) dX9_changer_35 rfl ?_
  refine q_istore dX9_changer_36 (by decide) ?_
  exact key 10 0 _ _ _ (by omega) rfl rfl ⟨rfl, rfl, rfl, rfl, rfl, rfl, trivial⟩
theorem n_copy {a b : Nat} (ha : a < 3) (hb : b < 3) (hab : a ≠ b) (hM : hat as h m (mo tc r z)) (hf : hat as h (r 13) (aI Γ 240 f)) (hlo : hat as h (r 14) (aI Γ 3 lo)) (hy : hat as h (r 15) (aI Γ 3 ya)) (hly : r 14 ≠ r 15) : Det Γ l mX9_copy rX9_copy [.ref m, .int (nI a), .int (nI b)] as h none (hset (hset (hset h (r 13) (aI Γ 240 (cpF f a b 80))) (r 14) (aI Γ 3 (upd lo b (lo a)))) (r 15) (aI Γ 3 (upd ya b (ya a)))) := by
  have e1 := hat_oa hM hf
  have e2 := hat_oa hM hlo
  have e3 := hat_oa hM hy
  have e4 := hat_nl hlo hf (by decide)
  have e5 := hat_nl hy hf (by decide)
  have i8 : ∀ c j : Nat, 80 * nI c + nI j = nI (80 * c + j) := fun c j => by rw [show (80 : Int32) = nI 80 from rfl, pk_mul, nI_add]
  have key : ∀ (d k : Nat) (v3 : Int32) (ls : List (Nat × Value)) (h' : aH), k + d = 80 → v3 = nI k → h' = hset h (r 13) (aI Γ 240 (cpF f a b k)) → lin ls [(0, .ref m), (1, .int (nI a)), (2, .int (nI b)), (3, .int v3)] → V Γ l mX9_copy rX9_copy (Zm Γ rX9_copy (qD none as (hset (hset (hset h (r 13) (aI Γ 240 (cpF f a b 80))) (r 14) (aI Γ 3 (upd lo b (lo a)))) (r 15) (aI Γ 3 (upd ya b (ya a)))))) 0 0 2 ls [] as h' := by
    intro d
    induction d with
    | zero =>
      intro k v3 ls h' hk hv hh hl
      have hk8 : k = 80 := by omega
      subst hk8 hv hh
      refine V.at ?_ hl
      refine q_iload_n dX9_copy_2 rfl rfl ?_
      refine q_bipush (v := 80) dX9_copy_3 rfl ?_
      refine q_icmp_ge 36 dX9_copy_5 (by decide) (fun _ => ?_) (fun z => absurd (Int32.le_refl _) z)
      refine q_aload_n dX9_copy_36 rfl rfl ?_
      refine q_get dX9_copy_37 fX9_copy_29 (hat_ne hM e1) rfl ?_
      refine q_iload_n dX9_copy_40 rfl rfl ?_
      refine q_aload_n dX9_copy_41 rfl rfl ?_
      refine q_get dX9_copy_42 fX9_copy_29 (hat_ne hM e1) rfl ?_
      refine q_iload_n dX9_copy_45 rfl rfl ?_
      refine q_iald dX9_copy_46 (hat_ne hlo e4) (in_nI ha (by omega)) ?_
      refine q_iast dX9_copy_47 (hat_ne hlo e4) (in_nI hb (by omega)) ?_
      refine q_aload_n dX9_copy_48 rfl rfl ?_
      refine q_get dX9_copy_49 fX9_copy_32 (hat_ne (hat_ne hM e1) e2) rfl ?_
      refine q_iload_n dX9_copy_52 rfl rfl ?_
      refine q_aload_n dX9_copy_53 rfl rfl ?_
      refine q_get dX9_copy_54 fX9_copy_32 (hat_ne (hat_ne hM e1) e2) rfl ?_
      refine q_iload_n dX9_copy_57 rfl rfl ?_
      refine q_iald dX9_copy_58 (hat_ne (hat_ne hy e5) hly.symm) (in_nI ha (by omega)) ?_
      refine q_iast dX9_copy_59 (hat_ne (hat_ne hy e5) hly.symm) (in_nI hb (by omega)) ?_
      exact q_vret dX9_copy_60 rfl (Nat.zero_le _) (Nat.zero_le _) (⟨rfl, rfl, by rw [nI_clamp (by omega), nI_clamp (by omega)]⟩)
    | succ d ih =>
      intro k v3 ls h' hk hv hh hl
      subst hv hh
      refine V.at ?_ hl
      refine q_iload_n dX9_copy_2 rfl rfl ?_
      refine q_bipush (v := 80) dX9_copy_3 rfl ?_
      refine q_icmp_ge 36 dX9_copy_5 (by decide) (fun z => absurd z (lt_c 80 rfl (by omega) (by omega))) (fun _ => ?_)
      refine q_aload_n dX9_copy_8 rfl rfl ?_
      refine q_get dX9_copy_9 fX9_copy_26 (hat_ne hM e1) rfl ?_
      refine q_bipush (v := 80) dX9_copy_12 rfl ?_
      refine q_iload_n dX9_copy_14 rfl rfl ?_
      refine q_imul dX9_copy_15 ?_
      refine q_iload_n dX9_copy_16 rfl rfl ?_
      refine q_iadd dX9_copy_17 ?_
      refine q_aload_n dX9_copy_18 rfl rfl ?_
      refine q_get dX9_copy_19 fX9_copy_26 (hat_ne hM e1) rfl ?_
      refine q_bipush (v := 80) dX9_copy_22 rfl ?_
      refine q_iload_n dX9_copy_24 rfl rfl ?_
      refine q_imul dX9_copy_25 ?_
      refine q_iload_n dX9_copy_26 rfl rfl ?_
      refine q_iadd dX9_copy_27 ?_
      rw [i8]
      refine q_iald dX9_copy_28 (hat_set hf) (in_nI (show 80 * a + k < 240 by omega) (by omega)) ?_
      rw [i8]
      refine q_iast dX9_copy_29 (hat_set hf) (in_nI (show 80 * b + k < 240 by omega) (by omega)) ?_
      refine q_iinc1 dX9_copy_30 rfl (by decide) ?_
      refine q_goto 2 dX9_copy_33 (by decide) ?_
      exact ih (k + 1) _ _ _ (by omega) (nI_s k) (by rw [hset_hset, nI_clamp (by omega), nI_clamp (by omega), cp_s hab (by omega)]) ⟨rfl, rfl, rfl, rfl, trivial⟩
  refine Con.of (by decide +kernel) rfl rfl (Nat.le_of_ble_eq_true rfl) ?_
  refine q_iconst (v := 0) dX9_copy_0 rfl ?_
  refine q_istore_n dX9_copy_1 rfl (by decide) ?_
  exact key 80 0 _ _ _ (by omega) rfl (by rw [cp_0, hset_same hf.2]) ⟨rfl, rfl, rfl, rfl, trivial⟩
theorem isIm_UL {q : Int32} : isIm q = isUL q := by
  rw [← inB_UL, inB_i (a := 0) (b := 1) (by decide) (by decide)]
  unfold isIm
  congr 1
  exact decide_eq_decide.mpr Int32.not_lt
theorem n_keep_bad {q : Int32} (hb : isIm q = false) : Det Γ l mX9_keep rX9_keep [.ref m, .int q] as h (some (.int (-1))) h := by
  refine Con.of (by decide +kernel) rfl rfl (Nat.le_of_ble_eq_true rfl) ?_
  refine q_iload_n dX9_keep_0 rfl rfl ?_
  refine q_i2l dX9_keep_1 ?_
  refine q_lconst (v := 0) dX9_keep_2 rfl ?_
  refine q_lconst (v := 1) dX9_keep_3 rfl ?_
  refine q_callSd dX9_keep_4 wX9_keep_60 (n_in) rfl rfl (Nat.le_of_ble_eq_true rfl) ⟨⟨Nat.le_of_ble_eq_true rfl, Nat.le_of_ble_eq_true rfl⟩, Nat.le_of_ble_eq_true rfl, Nat.le_of_ble_eq_true rfl⟩ ?_
  refine q_if_ne 12 dX9_keep_7 (by decide) (fun z => absurd (by rw [inB_UL, ← isIm_UL, hb]; rfl) z) (fun _ => ?_)
  refine q_iconst (v := (-1)) dX9_keep_10 rfl ?_
  exact q_iret dX9_keep_11 rfl (Nat.zero_le _) (Nat.zero_le _) (⟨rfl, rfl, rfl⟩)
theorem n_back_bad {q : Int32} (hb : isIm q = false) : Det Γ l mX9_back rX9_back [.ref m, .int q] as h (some (.int (-1))) h := by
  refine Con.of (by decide +kernel) rfl rfl (Nat.le_of_ble_eq_true rfl) ?_
  refine q_iload_n dX9_back_0 rfl rfl ?_
  refine q_i2l dX9_back_1 ?_
  refine q_lconst (v := 0) dX9_back_2 rfl ?_
  refine q_lconst (v := 1) dX9_back_3 rfl ?_
  refine q_callSd dX9_back_4 wX9_back_60 (n_in) rfl rfl (Nat.le_of_ble_eq_true rfl) ⟨⟨Nat.le_of_ble_eq_true rfl, Nat.le_of_ble_eq_true rfl⟩, Nat.le_of_ble_eq_true rfl, Nat.le_of_ble_eq_true rfl⟩ ?_
  refine q_if_ne 12 dX9_back_7 (by decide) (fun z => absurd (by rw [inB_UL, ← isIm_UL, hb]; rfl) z) (fun _ => ?_)
  refine q_iconst (v := (-1)) dX9_back_10 rfl ?_
  exact q_iret dX9_back_11 rfl (Nat.zero_le _) (Nat.zero_le _) (⟨rfl, rfl, rfl⟩)
theorem n_keep {j : Nat} (hj : j < 2) (hn8 : n ≤ 8) (hM : hat as h m (mo tc r z)) (hn : z 3 = nI n) (hf : hat as h (r 13) (aI Γ 240 f)) (hlo : hat as h (r 14) (aI Γ 3 lo)) (hy : hat as h (r 15) (aI Γ 3 ya)) (hly : r 14 ≠ r 15) (hk : hat as h (r 16) (aZ Γ 2 kp)) (hz : zro n (cpF f 0 (1 + j) 80)) : Det Γ l mX9_keep rX9_keep [.ref m, .int (nI j)] as h (some (.int (pAll (cpF f 0 (1 + j) 80)))) (hset (hset (hset (hset h (r 13) (aI Γ 240 (cpF f 0 (1 + j) 80))) (r 14) (aI Γ 3 (upd lo (1 + j) (lo 0)))) (r 15) (aI Γ 3 (upd ya (1 + j) (ya 0)))) (r 16) (aZ Γ 2 (upd kp j 1))) := by
  have e1 := hat_oa hM hf
  have e2 := hat_oa hM hlo
  have e3 := hat_oa hM hy
  have e4 := hat_oa hM hk
  have e5 : r 16 ≠ r 13 := hat_un hk hf (aZ_aI (by decide))
  have e6 : r 16 ≠ r 14 := hat_un hk hlo (aZ_aI (by decide))
  have e7 : r 16 ≠ r 15 := hat_un hk hy (aZ_aI (by decide))
  have e8 := hat_nl hf hlo (by decide)
  have e9 := hat_nl hf hy (by decide)
  refine Con.of (by decide +kernel) rfl rfl (Nat.le_of_ble_eq_true rfl) ?_
  refine q_iload_n dX9_keep_0 rfl rfl ?_
  refine q_i2l dX9_keep_1 ?_
  refine q_lconst (v := 0) dX9_keep_2 rfl ?_
  refine q_lconst (v := 1) dX9_keep_3 rfl ?_
  refine q_callSd dX9_keep_4 wX9_keep_60 (n_in) rfl rfl (Nat.le_of_ble_eq_true rfl) ⟨⟨Nat.le_of_ble_eq_true rfl, Nat.le_of_ble_eq_true rfl⟩, Nat.le_of_ble_eq_true rfl, Nat.le_of_ble_eq_true rfl⟩ ?_
  refine q_if_ne 12 dX9_keep_7 (by decide) (fun _ => ?_) (fun z => absurd z (by rw [inB_UL, ← isIm_UL, isIm_nI hj]; decide))
  refine q_aload_n dX9_keep_12 rfl rfl ?_
  refine q_iconst (v := 0) dX9_keep_13 rfl ?_
  refine q_iconst (v := 1) dX9_keep_14 rfl ?_
  refine q_iload_n dX9_keep_15 rfl rfl ?_
  refine q_iadd dX9_keep_16 ?_
  rw [show (1 : Int32) + nI j = nI (1 + j) from nI_add 1 j]
  refine q_callVd dX9_keep_17 wX9_keep_246 (n_copy (a := 0) (by omega) (by omega) (by omega) hM hf hlo hy hly) (hM) ⟨_, _, rfl⟩ rfl rfl (Nat.le_of_ble_eq_true rfl) ⟨⟨Nat.le_of_ble_eq_true rfl, Nat.le_of_ble_eq_true rfl⟩, Nat.le_of_ble_eq_true rfl, Nat.le_of_ble_eq_true rfl⟩ ?_
  refine q_aload_n dX9_keep_20 rfl rfl ?_
  refine q_get dX9_keep_21 fX9_keep_35 (hat_ne (hat_ne (hat_ne hM e1) e2) e3) rfl ?_
  refine q_iload_n dX9_keep_24 rfl rfl ?_
  refine q_iconst (v := 1) dX9_keep_25 rfl ?_
  refine q_zast dX9_keep_26 (hat_ne (hat_ne (hat_ne hk e5) e6) e7) (in_nI hj (by omega)) ?_
  rw [nI_clamp (by omega), show vp_nar .boolean 1 = 1 from rfl]
  refine q_aload_n dX9_keep_27 rfl rfl ?_
  refine q_callVd dX9_keep_28 wX9_keep_164 (n_allCoins (f := cpF f 0 (1 + j) 80) (hat_ne (hat_ne (hat_ne (hat_ne hM e1) e2) e3) e4) hn hn8 (hat_ne (hat_ne (hat_ne (hat_set hf) e8) e9) e5.symm) hz) (hat_ne (hat_ne (hat_ne (hat_ne hM e1) e2) e3) e4) ⟨_, _, rfl⟩ rfl rfl (Nat.le_of_ble_eq_true rfl) ⟨⟨Nat.le_of_ble_eq_true rfl, Nat.le_of_ble_eq_true rfl⟩, Nat.le_of_ble_eq_true rfl, Nat.le_of_ble_eq_true rfl⟩ ?_
  exact q_iret dX9_keep_31 rfl (Nat.zero_le _) (Nat.zero_le _) (⟨rfl, rfl, rfl⟩)
theorem n_back_none {j : Nat} (hj : j < 2) (hM : hat as h m (mo tc r z)) (hk : hat as h (r 16) (aZ Γ 2 kp)) (hkj : kp j = 0) : Det Γ l mX9_back rX9_back [.ref m, .int (nI j)] as h (some (.int (-2))) h := by
  refine Con.of (by decide +kernel) rfl rfl (Nat.le_of_ble_eq_true rfl) ?_
  refine q_iload_n dX9_back_0 rfl rfl ?_
  refine q_i2l dX9_back_1 ?_
  refine q_lconst (v := 0) dX9_back_2 rfl ?_
  refine q_lconst (v := 1) dX9_back_3 rfl ?_
  refine q_callSd dX9_back_4 wX9_back_60 (n_in) rfl rfl (Nat.le_of_ble_eq_true rfl) ⟨⟨Nat.le_of_ble_eq_true rfl, Nat.le_of_ble_eq_true rfl⟩, Nat.le_of_ble_eq_true rfl, Nat.le_of_ble_eq_true rfl⟩ ?_
  refine q_if_ne 12 dX9_back_7 (by decide) (fun _ => ?_) (fun z => absurd z (by rw [inB_UL, ← isIm_UL, isIm_nI hj]; decide))
  refine q_aload_n dX9_back_12 rfl rfl ?_
  refine q_get dX9_back_13 fX9_back_35 (hM) rfl ?_
  refine q_iload_n dX9_back_16 rfl rfl ?_
  refine q_zald dX9_back_17 (hk) (in_nI hj (by omega)) ?_
  rw [nI_clamp (by omega), hkj]
  refine q_if_ne 24 dX9_back_18 (by decide) (fun z => absurd (rfl) z) (fun _ => ?_)
  refine q_bipush (v := (-2)) dX9_back_21 rfl ?_
  exact q_iret dX9_back_23 rfl (Nat.zero_le _) (Nat.zero_le _) (⟨rfl, rfl, rfl⟩)
theorem n_back {j : Nat} (hj : j < 2) (hn8 : n ≤ 8) (hM : hat as h m (mo tc r z)) (hn : z 3 = nI n) (hf : hat as h (r 13) (aI Γ 240 f)) (hlo : hat as h (r 14) (aI Γ 3 lo)) (hy : hat as h (r 15) (aI Γ 3 ya)) (hly : r 14 ≠ r 15) (hk : hat as h (r 16) (aZ Γ 2 kp)) (hkj : kp j = 1) (hz : zro n (cpF f (1 + j) 0 80)) : Det Γ l mX9_back rX9_back [.ref m, .int (nI j)] as h (some (.int (pAll (cpF f (1 + j) 0 80)))) (hset (hset (hset h (r 13) (aI Γ 240 (cpF f (1 + j) 0 80))) (r 14) (aI Γ 3 (upd lo 0 (lo (1 + j))))) (r 15) (aI Γ 3 (upd ya 0 (ya (1 + j))))) := by
  have e1 := hat_oa hM hf
  have e2 := hat_oa hM hlo
  have e3 := hat_oa hM hy
  have e8 := hat_nl hf hlo (by decide)
  have e9 := hat_nl hf hy (by decide)
  refine Con.of (by decide +kernel) rfl rfl (Nat.le_of_ble_eq_true rfl) ?_
  refine q_iload_n dX9_back_0 rfl rfl ?_
  refine q_i2l dX9_back_1 ?_
  refine q_lconst (v := 0) dX9_back_2 rfl ?_
  refine q_lconst (v := 1) dX9_back_3 rfl ?_
  refine q_callSd dX9_back_4 wX9_back_60 (n_in) rfl rfl (Nat.le_of_ble_eq_true rfl) ⟨⟨Nat.le_of_ble_eq_true rfl, Nat.le_of_ble_eq_true rfl⟩, Nat.le_of_ble_eq_true rfl, Nat.le_of_ble_eq_true rfl⟩ ?_
  refine q_if_ne 12 dX9_back_7 (by decide) (fun _ => ?_) (fun z => absurd z (by rw [inB_UL, ← isIm_UL, isIm_nI hj]; decide))
  refine q_aload_n dX9_back_12 rfl rfl ?_
  refine q_get dX9_back_13 fX9_back_35 (hM) rfl ?_
  refine q_iload_n dX9_back_16 rfl rfl ?_
  refine q_zald dX9_back_17 (hk) (in_nI hj (by omega)) ?_
  rw [nI_clamp (by omega), hkj]
  refine q_if_ne 24 dX9_back_18 (by decide) (fun _ => ?_) (fun z => absurd z ((by decide)))
  refine q_aload_n dX9_back_24 rfl rfl ?_
  refine q_iconst (v := 1) dX9_back_25 rfl ?_
  refine q_iload_n dX9_back_26 rfl rfl ?_
  refine q_iadd dX9_back_27 ?_
  refine q_iconst (v := 0) dX9_back_28 rfl ?_
  rw [show (1 : Int32) + nI j = nI (1 + j) from nI_add 1 j]
  refine q_callVd dX9_back_29 wX9_back_246 (n_copy (b := 0) (by omega) (by omega) (by omega) hM hf hlo hy hly) (hM) ⟨_, _, rfl⟩ rfl rfl (Nat.le_of_ble_eq_true rfl) ⟨⟨Nat.le_of_ble_eq_true rfl, Nat.le_of_ble_eq_true rfl⟩, Nat.le_of_ble_eq_true rfl, Nat.le_of_ble_eq_true rfl⟩ ?_
  refine q_aload_n dX9_back_32 rfl rfl ?_
  refine q_callVd dX9_back_33 wX9_back_164 (n_allCoins (f := cpF f (1 + j) 0 80) (hat_ne (hat_ne (hat_ne hM e1) e2) e3) hn hn8 (hat_ne (hat_ne (hat_set hf) e8) e9) hz) (hat_ne (hat_ne (hat_ne hM e1) e2) e3) ⟨_, _, rfl⟩ rfl rfl (Nat.le_of_ble_eq_true rfl) ⟨⟨Nat.le_of_ble_eq_true rfl, Nat.le_of_ble_eq_true rfl⟩, Nat.le_of_ble_eq_true rfl, Nat.le_of_ble_eq_true rfl⟩ ?_
  exact q_iret dX9_back_36 rfl (Nat.zero_le _) (Nat.zero_le _) (⟨rfl, rfl, rfl⟩)
theorem n_count_bad {q : Int32} (hb : q.toInt < 0 ∨ 5 < q.toInt) : Det Γ l mX9_count rX9_count [.ref m, .int q] as h (some (.int (-1))) h := by
  refine Con.of (by decide +kernel) rfl rfl (Nat.le_of_ble_eq_true rfl) ?_
  refine q_iload_n dX9_count_0 rfl rfl ?_
  refine q_tableOut 72 dX9_count_1 (hb) (by decide) ?_
  refine q_iconst (v := (-1)) dX9_count_72 rfl ?_
  exact q_iret dX9_count_73 rfl (Nat.zero_le _) (Nat.zero_le _) (⟨rfl, rfl, rfl⟩)
theorem n_count {j : Nat} (hj : j < 6) (hM : hat as h m (mo tc r z)) (hn : z 3 = nI n) (hn8 : n ≤ 8) (hf : hat as h (r 13) (aI Γ 240 f)) (hz : zro n f) (hy : hat as h (r 15) (aI Γ 3 ya)) : Det Γ l mX9_count rX9_count [.ref m, .int (nI j)] as h (some (.int (cntX n (pAll f) (ya 0) (z 2) (z 19) (pGr f) j))) h := by
  refine Con.of (by decide +kernel) rfl rfl (Nat.le_of_ble_eq_true rfl) ?_
  rcases (show j = 0 ∨ j = 1 ∨ j = 2 ∨ j = 3 ∨ j = 4 ∨ j = 5 by omega) with rfl | rfl | rfl | rfl | rfl | rfl
  · skip
    refine q_iload_n dX9_count_0 rfl rfl ?_
    refine q_tableIn 40 dX9_count_1 (by decide) (by decide) rfl (by decide) ?_
    refine q_aload_n dX9_count_40 rfl rfl ?_
    refine q_get dX9_count_41 fX9_count_111 (hM) rfl ?_
    exact q_iret dX9_count_44 rfl (Nat.zero_le _) (Nat.zero_le _) (⟨by rw [hn]; rfl, rfl, rfl⟩)
  · skip
    refine q_iload_n dX9_count_0 rfl rfl ?_
    refine q_tableIn 45 dX9_count_1 (by decide) (by decide) rfl (by decide) ?_
    refine q_aload_n dX9_count_45 rfl rfl ?_
    refine q_callVd dX9_count_46 wX9_count_164 (n_allCoins hM hn hn8 hf hz) (hM) ⟨_, _, rfl⟩ rfl rfl (Nat.le_of_ble_eq_true rfl) ⟨⟨Nat.le_of_ble_eq_true rfl, Nat.le_of_ble_eq_true rfl⟩, Nat.le_of_ble_eq_true rfl, Nat.le_of_ble_eq_true rfl⟩ ?_
    exact q_iret dX9_count_49 rfl (Nat.zero_le _) (Nat.zero_le _) (⟨rfl, rfl, rfl⟩)
  · skip
    refine q_iload_n dX9_count_0 rfl rfl ?_
    refine q_tableIn 50 dX9_count_1 (by decide) (by decide) rfl (by decide) ?_
    refine q_aload_n dX9_count_50 rfl rfl ?_
    refine q_get dX9_count_51 fX9_count_32 (hM) rfl ?_
    refine q_iconst (v := 0) dX9_count_54 rfl ?_
    refine q_iald dX9_count_55 (hy) (in_nI (k := 0) (by omega) (by omega)) ?_
    exact q_iret dX9_count_56 rfl (Nat.zero_le _) (Nat.zero_le _) (⟨rfl, rfl, rfl⟩)
  · skip
    refine q_iload_n dX9_count_0 rfl rfl ?_
    refine q_tableIn 57 dX9_count_1 (by decide) (by decide) rfl (by decide) ?_
    refine q_aload_n dX9_count_57 rfl rfl ?_
    refine q_get dX9_count_58 fX9_count_64 (hM) rfl ?_
    exact q_iret dX9_count_61 rfl (Nat.zero_le _) (Nat.zero_le _) (⟨rfl, rfl, rfl⟩)
  · skip
    refine q_iload_n dX9_count_0 rfl rfl ?_
    refine q_tableIn 62 dX9_count_1 (by decide) (by decide) rfl (by decide) ?_
    refine q_aload_n dX9_count_62 rfl rfl ?_
    refine q_get dX9_count_63 fX9_count_114 (hM) rfl ?_
    exact q_iret dX9_count_66 rfl (Nat.zero_le _) (Nat.zero_le _) (⟨rfl, rfl, rfl⟩)
  · skip
    refine q_iload_n dX9_count_0 rfl rfl ?_
    refine q_tableIn 67 dX9_count_1 (by decide) (by decide) rfl (by decide) ?_
    refine q_aload_n dX9_count_67 rfl rfl ?_
    refine q_callVd dX9_count_68 wX9_count_205 (n_there hM hn hn8 hf hz) (hM) ⟨_, _, rfl⟩ rfl rfl (Nat.le_of_ble_eq_true rfl) ⟨⟨Nat.le_of_ble_eq_true rfl, Nat.le_of_ble_eq_true rfl⟩, Nat.le_of_ble_eq_true rfl, Nat.le_of_ble_eq_true rfl⟩ ?_
    exact q_iret dX9_count_71 rfl (Nat.zero_le _) (Nat.zero_le _) (⟨rfl, rfl, rfl⟩)
end

