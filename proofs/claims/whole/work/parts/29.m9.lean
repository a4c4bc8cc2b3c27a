/-! THE REFERENCE (X9): clip, laws, changers, counts, labour -/
theorem ix3m (k w : Nat) : 3 * nI k + nI w = nI (k * 3 + w) := by rw [show (3 : Int32) = nI 3 from rfl, pk_mul, nI_add, Nat.mul_comm]
theorem in3m {k w : Nat} (hk : k < 9) (hw : w < 3) : vp_in (3 * nI k + nI w) 27 := by rw [ix3m]; exact vp_in_nI (by omega) (by omega)
theorem cl3m {k w : Nat} (hk : k < 9) (hw : w < 3) : (3 * nI k + nI w).toNatClampNeg = k * 3 + w := by rw [ix3m]; exact nI_clamp (by omega)
/-- the reference's cheapest set of the first k -/
def mCh (lw : Nat → Int32) (u1 u2 a b : Int32) : Nat → Int32
  | 0 => -9
  | k + 1 => if (u1 - lawS lw (nI k) 1 9 ≤ a ∧ b ≤ u2 + lawS lw (nI k) 2 9) ∧ (mCh lw u1 u2 a b k = -9 ∨ lawS lw (nI k) 0 9 < lawS lw (mCh lw u1 u2 a b k) 0 9) then nI k else mCh lw u1 u2 a b k
/-- the reference's best of 0 .. k -/
def cmS (f u : Nat → Int32) (p : Nat) (c : Int32) : Nat → Nat
  | 0 => 0
  | k + 1 => if hmF f u p (nI (k + 1)) c < hmF f u p (nI (cmS f u p c k)) c then cmS f u p c k else k + 1
def bsS (s : Int32) : Nat → Int32
  | 0 => 0
  | k + 1 => bsS s k + ((s >>> (nI k &&& 31)) &&& 1)
section
variable {Γ : gT} {l : Launch} {as : List Nat} {h : aH} {m : Nat} {tc : Int64} {r : Nat → Nat} {z : Nat → Int32} {n k : Nat} {f u c ya lw x o lo mt : Nat → Int32} {g : Nat → Int64}
theorem n_clip_bad {p q : Int32} (hb : isW p = false ∨ (q < 0 ∨ 2 < q)) : Det Γ l mX9_clip rX9_clip [.ref m, .int p, .int q] as h (some (.long (-1000000000000000000))) h := by
  refine Con.of (by decide +kernel) rfl rfl (Nat.le_of_ble_eq_true rfl) ?_
  refine q_iload_n dX9_clip_0 rfl rfl ?_
  refine q_i2l dX9_clip_1 ?_
  refine q_lconst (v := 0) dX9_clip_2 rfl ?_
  refine q_ldc2 (v := 9) dX9_clip_3 (by decide +kernel) ?_
  refine q_callSd dX9_clip_6 wX9_clip_60 (n_in) rfl rfl (Nat.le_of_ble_eq_true rfl) ⟨⟨Nat.le_of_ble_eq_true rfl, Nat.le_of_ble_eq_true rfl⟩, Nat.le_of_ble_eq_true rfl, Nat.le_of_ble_eq_true rfl⟩ ?_
  rw [inB_W]
  refine q_if_eq 24 dX9_clip_9 (by decide) (fun cA => ?_) (fun cA => ?_)
  · refine q_ldc2 (v := (-1000000000000000000)) dX9_clip_24 (by decide +kernel) ?_
    exact q_lret dX9_clip_27 rfl (Nat.zero_le _) (Nat.zero_le _) (⟨rfl, rfl, rfl⟩)
  · refine q_iload_n dX9_clip_12 rfl rfl ?_
    refine q_i2l dX9_clip_13 ?_
    refine q_lconst (v := 0) dX9_clip_14 rfl ?_
    refine q_ldc2 (v := 2) dX9_clip_15 (by decide +kernel) ?_
    refine q_callSd dX9_clip_18 wX9_clip_60 (n_in) rfl rfl (Nat.le_of_ble_eq_true rfl) ⟨⟨Nat.le_of_ble_eq_true rfl, Nat.le_of_ble_eq_true rfl⟩, Nat.le_of_ble_eq_true rfl, Nat.le_of_ble_eq_true rfl⟩ ?_
    refine q_if_ne 28 dX9_clip_21 (by decide) (fun cB => ?_) (fun cB => ?_)
    · exact absurd hb (by rintro (e | e); exact cA (by rw [e]; rfl); exact cB (by rw [inB_no (a := 0) (b := 2) (by decide) (by decide) e]; rfl))
    · refine q_ldc2 (v := (-1000000000000000000)) dX9_clip_24 (by decide +kernel) ?_
      exact q_lret dX9_clip_27 rfl (Nat.zero_le _) (Nat.zero_le _) (⟨rfl, rfl, rfl⟩)
theorem n_clip_until {p : Nat} (hp : p < 10) (hM : hat as h m (mo tc r z)) (hu : hat as h (r 17) (aI Γ 6 u)) (hg : hat as h (r 20) (aJ Γ 10 g)) (hc : hat as h (r 21) (aZ Γ 10 c)) : Det Γ l mX9_clip rX9_clip [.ref m, .int (nI p), .int 2] as h (some (.long (unS u (9 - p) p).toInt64)) (hset (hset h (r 20) (aJ Γ 10 (gwF u g 9))) (r 21) (aZ Γ 10 (gcF u c 9))) := by
  have e1 := hat_oa hM hg
  have e2 := hat_oa hM hc
  have e5 : r 20 ≠ r 21 := hat_un hg hc aJ_aZ
  have xM := hat_ne (e' := aZ Γ 10 (gcF u c 9)) (hat_ne (e' := aJ Γ 10 (gwF u g 9)) hM e1) e2
  have xc := hat_set (e' := aZ Γ 10 (gcF u c 9)) (hat_ne (e' := aJ Γ 10 (gwF u g 9)) hc e5.symm)
  have key : ∀ (d i : Nat) (r0 v3 : Int32) (ls : List (Nat × Value)), i + d = 9 → r0 = unS u d i → v3 = nI i → lin ls [(0, .ref m), (3, .int v3)] → V Γ l mX9_clip rX9_clip (Zm Γ rX9_clip (qD (some (.long r0.toInt64)) as (hset (hset h (r 20) (aJ Γ 10 (gwF u g 9))) (r 21) (aZ Γ 10 (gcF u c 9))))) 0 0 39 ls [] as (hset (hset h (r 20) (aJ Γ 10 (gwF u g 9))) (r 21) (aZ Γ 10 (gcF u c 9))) := by
    intro d
    induction d with
    | zero =>
      intro i r0 v3 ls hi hr hv hl
      have hi9 : i = 9 := by omega
      subst hi9 hv
      refine V.at ?_ hl
      refine q_aload_n dX9_clip_39 rfl rfl ?_
      refine q_get dX9_clip_40 fX9_clip_49 (xM) rfl ?_
      refine q_iload_n dX9_clip_43 rfl rfl ?_
      refine q_zald dX9_clip_44 (xc) (in_nI (k := 9) (by omega) (by omega)) ?_
      refine q_if_eq 54 dX9_clip_45 (by decide) (fun _ => ?_) (fun z => absurd (rfl) z)
      refine q_iload_n dX9_clip_54 rfl rfl ?_
      refine q_i2l dX9_clip_55 ?_
      exact q_lret dX9_clip_56 rfl (Nat.zero_le _) (Nat.zero_le _) (⟨by rw [hr]; rfl, rfl, rfl⟩)
    | succ d ih =>
      intro i r0 v3 ls hi hr hv hl
      subst hv
      refine V.at ?_ hl
      have hci : gcF u c 9 i = bI (clB u i) := by unfold gcF; rw [if_neg (by omega), if_pos (by omega)]
      refine q_aload_n dX9_clip_39 rfl rfl ?_
      refine q_get dX9_clip_40 fX9_clip_49 (xM) rfl ?_
      refine q_iload_n dX9_clip_43 rfl rfl ?_
      refine q_zald dX9_clip_44 (xc) (in_nI (show i < 10 by omega) (by omega)) ?_
      rw [nI_clamp (by omega), hci]
      refine q_if_eq 54 dX9_clip_45 (by decide) (fun cA => ?_) (fun cA => ?_)
      · have hn : ¬ (asI u i).toInt64 * p10 (9 - i) < clS u i (wrW u (8 - i)) := of_decide_eq_false (bI_0.mp cA)
        refine q_iload_n dX9_clip_54 rfl rfl ?_
        refine q_i2l dX9_clip_55 ?_
        exact q_lret dX9_clip_56 rfl (Nat.zero_le _) (Nat.zero_le _) (⟨by rw [hr]; simp only [unS]; rw [if_neg hn], rfl, rfl⟩)
      · have hn : (asI u i).toInt64 * p10 (9 - i) < clS u i (wrW u (8 - i)) := of_decide_eq_true (bI_n.mp cA)
        refine q_iinc1 dX9_clip_48 rfl (by decide) ?_
        refine q_goto 39 dX9_clip_51 (by decide) ?_
        exact ih (i + 1) _ _ _ (by omega) (by rw [hr]; simp only [unS]; rw [if_pos hn]) (nI_s i) ⟨rfl, rfl, trivial⟩
  refine Con.of (by decide +kernel) rfl rfl (Nat.le_of_ble_eq_true rfl) ?_
  refine q_iload_n dX9_clip_0 rfl rfl ?_
  refine q_i2l dX9_clip_1 ?_
  refine q_lconst (v := 0) dX9_clip_2 rfl ?_
  refine q_ldc2 (v := 9) dX9_clip_3 (by decide +kernel) ?_
  refine q_callSd dX9_clip_6 wX9_clip_60 (n_in) rfl rfl (Nat.le_of_ble_eq_true rfl) ⟨⟨Nat.le_of_ble_eq_true rfl, Nat.le_of_ble_eq_true rfl⟩, Nat.le_of_ble_eq_true rfl, Nat.le_of_ble_eq_true rfl⟩ ?_
  refine q_if_eq 24 dX9_clip_9 (by decide) (fun z => absurd z (by rw [inB_W, isW_nI hp]; decide)) (fun _ => ?_)
  refine q_iload_n dX9_clip_12 rfl rfl ?_
  refine q_i2l dX9_clip_13 ?_
  refine q_lconst (v := 0) dX9_clip_14 rfl ?_
  refine q_ldc2 (v := 2) dX9_clip_15 (by decide +kernel) ?_
  refine q_callSd dX9_clip_18 wX9_clip_60 (n_in) rfl rfl (Nat.le_of_ble_eq_true rfl) ⟨⟨Nat.le_of_ble_eq_true rfl, Nat.le_of_ble_eq_true rfl⟩, Nat.le_of_ble_eq_true rfl, Nat.le_of_ble_eq_true rfl⟩ ?_
  refine q_if_ne 28 dX9_clip_21 (by decide) (fun _ => ?_) (fun z => absurd z (by decide))
  refine q_aload_n dX9_clip_28 rfl rfl ?_
  refine q_callVd dX9_clip_29 wX9_clip_196 (n_findWorth hM hu hg hc) (hM) ⟨_, _, rfl⟩ rfl rfl (Nat.le_of_ble_eq_true rfl) ⟨⟨Nat.le_of_ble_eq_true rfl, Nat.le_of_ble_eq_true rfl⟩, Nat.le_of_ble_eq_true rfl, Nat.le_of_ble_eq_true rfl⟩ ?_
  refine q_iload_n dX9_clip_32 rfl rfl ?_
  refine q_iconst (v := 2) dX9_clip_33 rfl ?_
  refine q_icmp_ne 57 dX9_clip_34 (by decide) (fun z => absurd (rfl) z) (fun _ => ?_)
  refine q_iload_n dX9_clip_37 rfl rfl ?_
  refine q_istore_n dX9_clip_38 rfl (by decide) ?_
  exact key (9 - p) p _ _ _ (by omega) rfl rfl ⟨rfl, rfl, trivial⟩
theorem isUL_02 {q : Int32} (h : isUL q = true) : inB q.toInt64 0 2 = true ∧ ¬ q = 2 := by
  unfold isUL at h
  rw [Bool.or_eq_true, decide_eq_true_eq, decide_eq_true_eq] at h
  rcases h with rfl | rfl <;> exact ⟨by decide, by decide⟩
theorem n_clip {p a b : Nat} {q : Int32} (hp : p < 10) (hq : isUL q = true) (hM : hat as h m (mo tc r z)) (hu : hat as h (r 17) (aI Γ 6 u)) (hg : hat as h (r 20) (aJ Γ 10 g)) (hc : hat as h (r 21) (aZ Γ 10 c)) (hup : (if 0 < wrW u (9 - p) then wrW u (9 - p) else -wrW u (9 - p)) = lN a) (ha : a < 2 ^ 63) (hb : p10 (9 - p) = lN b) (hb0 : 0 < b) (hb2 : b < 2 ^ 63) : Det Γ l mX9_clip rX9_clip [.ref m, .int (nI p), .int q] as h (some (.long ((if q = 0 then wrW u (9 - p) else lN b) / lN (Nat.gcd a b)))) (hset (hset h (r 20) (aJ Γ 10 (gwF u g 9))) (r 21) (aZ Γ 10 (gcF u c 9))) := by
  have e1 := hat_oa hM hg
  have e2 := hat_oa hM hc
  have e5 : r 20 ≠ r 21 := hat_un hg hc aJ_aZ
  have xM := hat_ne (e' := aZ Γ 10 (gcF u c 9)) (hat_ne (e' := aJ Γ 10 (gwF u g 9)) hM e1) e2
  have xg := hat_ne (e' := aZ Γ 10 (gcF u c 9)) (hat_set (e' := aJ Γ 10 (gwF u g 9)) hg) e5
  have hw : gwF u g 9 p = wrW u (9 - p) := by unfold gwF; rw [if_pos (by omega)]
  have key : ∀ (d i : Nat) (v3 : Int64) (v5 : Int32) (ls : List (Nat × Value)), i + d = 9 → p ≤ i → v3 = p10 (i - p) → v5 = nI i → lin ls [(0, .ref m), (1, .int (nI p)), (2, .int q), (3, .long v3), (5, .int v5)] → V Γ l mX9_clip rX9_clip (Zm Γ rX9_clip (qD (some (.long ((if q = 0 then wrW u (9 - p) else lN b) / lN (Nat.gcd a b)))) as (hset (hset h (r 20) (aJ Γ 10 (gwF u g 9))) (r 21) (aZ Γ 10 (gcF u c 9))))) 0 0 62 ls [] as (hset (hset h (r 20) (aJ Γ 10 (gwF u g 9))) (r 21) (aZ Γ 10 (gcF u c 9))) := by
    intro d
    induction d with
    | zero =>
      intro i v3 v5 ls hi hpi hv3 hv5 hl
      have hi9 : i = 9 := by omega
      subst hi9 hv3 hv5
      refine V.at ?_ hl
      refine q_iload dX9_clip_62 rfl ?_
      refine q_bipush (v := 9) dX9_clip_64 rfl ?_
      refine q_icmp_ge 81 dX9_clip_66 (by decide) (fun _ => ?_) (fun z => absurd (Int32.le_refl _) z)
      refine q_aload_n dX9_clip_81 rfl rfl ?_
      refine q_get dX9_clip_82 fX9_clip_45 (xM) rfl ?_
      refine q_iload_n dX9_clip_85 rfl rfl ?_
      refine q_lald dX9_clip_86 (xg) (in_nI (show p < 10 by omega) (by omega)) ?_
      refine q_lload_n dX9_clip_87 rfl rfl ?_
      refine q_iload_n dX9_clip_88 rfl rfl ?_
      rw [nI_clamp (by omega), hw, hb]
      refine q_callSd dX9_clip_89 wX9_clip_178 (n_inLeast hup ha hb2 hb0) rfl rfl (Nat.le_of_ble_eq_true rfl) ⟨⟨Nat.le_of_ble_eq_true rfl, Nat.le_of_ble_eq_true rfl⟩, Nat.le_of_ble_eq_true rfl, Nat.le_of_ble_eq_true rfl⟩ ?_
      exact q_lret dX9_clip_92 rfl (Nat.zero_le _) (Nat.zero_le _) (⟨rfl, rfl, rfl⟩)
    | succ d ih =>
      intro i v3 v5 ls hi hpi hv3 hv5 hl
      subst hv3 hv5
      refine V.at ?_ hl
      refine q_iload dX9_clip_62 rfl ?_
      refine q_bipush (v := 9) dX9_clip_64 rfl ?_
      refine q_icmp_ge 81 dX9_clip_66 (by decide) (fun z => absurd z (lt_c 9 rfl (by omega) (by omega))) (fun _ => ?_)
      refine q_lload_n dX9_clip_69 rfl rfl ?_
      refine q_ldc2 (v := 10) dX9_clip_70 (by decide +kernel) ?_
      refine q_lmul dX9_clip_73 ?_
      refine q_lstore_n dX9_clip_74 rfl (by decide) ?_
      refine q_iinc1 dX9_clip_75 rfl (by decide) ?_
      refine q_goto 62 dX9_clip_78 (by decide) ?_
      exact ih (i + 1) _ _ _ (by omega) (by omega) (by rw [show i + 1 - p = (i - p) + 1 by omega]; rfl) (nI_s i) ⟨rfl, rfl, rfl, rfl, rfl, trivial⟩
  refine Con.of (by decide +kernel) rfl rfl (Nat.le_of_ble_eq_true rfl) ?_
  refine q_iload_n dX9_clip_0 rfl rfl ?_
  refine q_i2l dX9_clip_1 ?_
  refine q_lconst (v := 0) dX9_clip_2 rfl ?_
  refine q_ldc2 (v := 9) dX9_clip_3 (by decide +kernel) ?_
  refine q_callSd dX9_clip_6 wX9_clip_60 (n_in) rfl rfl (Nat.le_of_ble_eq_true rfl) ⟨⟨Nat.le_of_ble_eq_true rfl, Nat.le_of_ble_eq_true rfl⟩, Nat.le_of_ble_eq_true rfl, Nat.le_of_ble_eq_true rfl⟩ ?_
  refine q_if_eq 24 dX9_clip_9 (by decide) (fun z => absurd z (by rw [inB_W, isW_nI hp]; decide)) (fun _ => ?_)
  refine q_iload_n dX9_clip_12 rfl rfl ?_
  refine q_i2l dX9_clip_13 ?_
  refine q_lconst (v := 0) dX9_clip_14 rfl ?_
  refine q_ldc2 (v := 2) dX9_clip_15 (by decide +kernel) ?_
  refine q_callSd dX9_clip_18 wX9_clip_60 (n_in) rfl rfl (Nat.le_of_ble_eq_true rfl) ⟨⟨Nat.le_of_ble_eq_true rfl, Nat.le_of_ble_eq_true rfl⟩, Nat.le_of_ble_eq_true rfl, Nat.le_of_ble_eq_true rfl⟩ ?_
  refine q_if_ne 28 dX9_clip_21 (by decide) (fun _ => ?_) (fun z => absurd z (by rw [(isUL_02 hq).1]; decide))
  refine q_aload_n dX9_clip_28 rfl rfl ?_
  refine q_callVd dX9_clip_29 wX9_clip_196 (n_findWorth hM hu hg hc) (hM) ⟨_, _, rfl⟩ rfl rfl (Nat.le_of_ble_eq_true rfl) ⟨⟨Nat.le_of_ble_eq_true rfl, Nat.le_of_ble_eq_true rfl⟩, Nat.le_of_ble_eq_true rfl, Nat.le_of_ble_eq_true rfl⟩ ?_
  refine q_iload_n dX9_clip_32 rfl rfl ?_
  refine q_iconst (v := 2) dX9_clip_33 rfl ?_
  refine q_icmp_ne 57 dX9_clip_34 (by decide) (fun _ => ?_) (fun z => absurd z ((isUL_02 hq).2))
  refine q_lconst (v := 1) dX9_clip_57 rfl ?_
  refine q_lstore_n dX9_clip_58 rfl (by decide) ?_
  refine q_iload_n dX9_clip_59 rfl rfl ?_
  refine q_istore dX9_clip_60 (by decide) ?_
  exact key (9 - p) p _ _ _ (by omega) (by omega) (by rw [Nat.sub_self]; rfl) rfl ⟨rfl, rfl, rfl, rfl, rfl, trivial⟩
theorem n_law_bad {j q v : Int32} (hb : (j < 0 ∨ 8 < j) ∨ (q < 0 ∨ 2 < q) ∨ (v < 0 ∨ 99 < v)) : Det Γ l mX9_law rX9_law [.ref m, .int j, .int q, .int v] as h (some (.int (-1))) h := by
  refine Con.of (by decide +kernel) rfl rfl (Nat.le_of_ble_eq_true rfl) ?_
  refine q_iload_n dX9_law_0 rfl rfl ?_
  refine q_i2l dX9_law_1 ?_
  refine q_lconst (v := 0) dX9_law_2 rfl ?_
  refine q_ldc2 (v := 8) dX9_law_3 (by decide +kernel) ?_
  refine q_callSd dX9_law_6 wX9_law_60 (n_in) rfl rfl (Nat.le_of_ble_eq_true rfl) ⟨⟨Nat.le_of_ble_eq_true rfl, Nat.le_of_ble_eq_true rfl⟩, Nat.le_of_ble_eq_true rfl, Nat.le_of_ble_eq_true rfl⟩ ?_
  refine q_if_eq 36 dX9_law_9 (by decide) (fun cA => ?_) (fun cA => ?_)
  · refine q_iconst (v := (-1)) dX9_law_36 rfl ?_
    exact q_iret dX9_law_37 rfl (Nat.zero_le _) (Nat.zero_le _) (⟨rfl, rfl, rfl⟩)
  · refine q_iload_n dX9_law_12 rfl rfl ?_
    refine q_i2l dX9_law_13 ?_
    refine q_lconst (v := 0) dX9_law_14 rfl ?_
    refine q_ldc2 (v := 2) dX9_law_15 (by decide +kernel) ?_
    refine q_callSd dX9_law_18 wX9_law_60 (n_in) rfl rfl (Nat.le_of_ble_eq_true rfl) ⟨⟨Nat.le_of_ble_eq_true rfl, Nat.le_of_ble_eq_true rfl⟩, Nat.le_of_ble_eq_true rfl, Nat.le_of_ble_eq_true rfl⟩ ?_
    refine q_if_eq 36 dX9_law_21 (by decide) (fun cB => ?_) (fun cB => ?_)
    · refine q_iconst (v := (-1)) dX9_law_36 rfl ?_
      exact q_iret dX9_law_37 rfl (Nat.zero_le _) (Nat.zero_le _) (⟨rfl, rfl, rfl⟩)
    · refine q_iload_n dX9_law_24 rfl rfl ?_
      refine q_i2l dX9_law_25 ?_
      refine q_lconst (v := 0) dX9_law_26 rfl ?_
      refine q_ldc2 (v := 99) dX9_law_27 (by decide +kernel) ?_
      refine q_callSd dX9_law_30 wX9_law_60 (n_in) rfl rfl (Nat.le_of_ble_eq_true rfl) ⟨⟨Nat.le_of_ble_eq_true rfl, Nat.le_of_ble_eq_true rfl⟩, Nat.le_of_ble_eq_true rfl, Nat.le_of_ble_eq_true rfl⟩ ?_
      refine q_if_ne 38 dX9_law_33 (by decide) (fun cC => ?_) (fun cC => ?_)
      · exact absurd hb (by rintro (e | e | e); exact cA (by rw [inB_no (a := 0) (b := 8) (by decide) (by decide) e]; rfl); exact cB (by rw [inB_no (a := 0) (b := 2) (by decide) (by decide) e]; rfl); exact cC (by rw [inB_no (a := 0) (b := 99) (by decide) (by decide) e]; rfl))
      · refine q_iconst (v := (-1)) dX9_law_36 rfl ?_
        exact q_iret dX9_law_37 rfl (Nat.zero_le _) (Nat.zero_le _) (⟨rfl, rfl, rfl⟩)
theorem n_law {j q : Nat} {v : Int32} (hj : j < 9) (hq : q < 3) (hv : isC v = true) (hM : hat as h m (mo tc r z)) (hlw : hat as h (r 23) (aI Γ 27 lw)) : Det Γ l mX9_law rX9_law [.ref m, .int (nI j), .int (nI q), .int v] as h (some (.int (lw (j * 3 + q)))) (hset h (r 23) (aI Γ 27 (upd lw (j * 3 + q) v))) := by
  refine Con.of (by decide +kernel) rfl rfl (Nat.le_of_ble_eq_true rfl) ?_
  refine q_iload_n dX9_law_0 rfl rfl ?_
  refine q_i2l dX9_law_1 ?_
  refine q_lconst (v := 0) dX9_law_2 rfl ?_
  refine q_ldc2 (v := 8) dX9_law_3 (by decide +kernel) ?_
  refine q_callSd dX9_law_6 wX9_law_60 (n_in) rfl rfl (Nat.le_of_ble_eq_true rfl) ⟨⟨Nat.le_of_ble_eq_true rfl, Nat.le_of_ble_eq_true rfl⟩, Nat.le_of_ble_eq_true rfl, Nat.le_of_ble_eq_true rfl⟩ ?_
  refine q_if_eq 36 dX9_law_9 (by decide) (fun z => absurd z (by rw [inB_nI (a := 0) (b := 8) (by decide) (by decide) (by omega) (by omega) (by omega)]; decide)) (fun _ => ?_)
  refine q_iload_n dX9_law_12 rfl rfl ?_
  refine q_i2l dX9_law_13 ?_
  refine q_lconst (v := 0) dX9_law_14 rfl ?_
  refine q_ldc2 (v := 2) dX9_law_15 (by decide +kernel) ?_
  refine q_callSd dX9_law_18 wX9_law_60 (n_in) rfl rfl (Nat.le_of_ble_eq_true rfl) ⟨⟨Nat.le_of_ble_eq_true rfl, Nat.le_of_ble_eq_true rfl⟩, Nat.le_of_ble_eq_true rfl, Nat.le_of_ble_eq_true rfl⟩ ?_
  refine q_if_eq 36 dX9_law_21 (by decide) (fun z => absurd z (by rw [inB_nI (a := 0) (b := 2) (by decide) (by decide) (by omega) (by omega) (by omega)]; decide)) (fun _ => ?_)
  refine q_iload_n dX9_law_24 rfl rfl ?_
  refine q_i2l dX9_law_25 ?_
  refine q_lconst (v := 0) dX9_law_26 rfl ?_
  refine q_ldc2 (v := 99) dX9_law_27 (by decide +kernel) ?_
  refine q_callSd dX9_law_30 wX9_law_60 (n_in) rfl rfl (Nat.le_of_ble_eq_true rfl) ⟨⟨Nat.le_of_ble_eq_true rfl, Nat.le_of_ble_eq_true rfl⟩, Nat.le_of_ble_eq_true rfl, Nat.le_of_ble_eq_true rfl⟩ ?_
  refine q_if_ne 38 dX9_law_33 (by decide) (fun _ => ?_) (fun z => absurd z (by rw [show inB v.toInt64 0 99 = isC v from inB_i (a := 0) (b := 99) (by decide) (by decide), hv]; decide))
  refine q_aload_n dX9_law_38 rfl rfl ?_
  refine q_get dX9_law_39 fX9_law_55 (hM) rfl ?_
  refine q_iconst (v := 3) dX9_law_42 rfl ?_
  refine q_iload_n dX9_law_43 rfl rfl ?_
  refine q_imul dX9_law_44 ?_
  refine q_iload_n dX9_law_45 rfl rfl ?_
  refine q_iadd dX9_law_46 ?_
  refine q_iald dX9_law_47 (hlw) (in3m hj hq) ?_
  refine q_istore dX9_law_48 (by decide) ?_
  refine q_aload_n dX9_law_50 rfl rfl ?_
  refine q_get dX9_law_51 fX9_law_55 (hM) rfl ?_
  refine q_iconst (v := 3) dX9_law_54 rfl ?_
  refine q_iload_n dX9_law_55 rfl rfl ?_
  refine q_imul dX9_law_56 ?_
  refine q_iload_n dX9_law_57 rfl rfl ?_
  refine q_iadd dX9_law_58 ?_
  refine q_iload_n dX9_law_59 rfl rfl ?_
  refine q_iast dX9_law_60 (hlw) (in3m hj hq) ?_
  refine q_iload dX9_law_61 rfl ?_
  exact q_iret dX9_law_63 rfl (Nat.zero_le _) (Nat.zero_le _) (⟨by rw [cl3m hj hq], rfl, by rw [cl3m hj hq]⟩)
theorem n_sumOf {s : Int32} {w : Nat} (hw : w < 3) (hM : hat as h m (mo tc r z)) (hlw : hat as h (r 23) (aI Γ 27 lw)) : Det Γ l mX9_sumOf rX9_sumOf [.ref m, .int s, .int (nI w)] as h (some (.int (lawS lw s w 9))) h := by
  have key : ∀ (d k : Nat) (v3 v4 : Int32) (ls : List (Nat × Value)), k + d = 9 → v3 = lawS lw s w k → v4 = nI k → lin ls [(0, .ref m), (1, .int s), (2, .int (nI w)), (3, .int v3), (4, .int v4)] → V Γ l mX9_sumOf rX9_sumOf (Zm Γ rX9_sumOf (qD (some (.int (lawS lw s w 9))) as h)) 0 0 5 ls [] as h := by
    intro d
    induction d with
    | zero =>
      intro k v3 v4 ls hk e3 e4 hl
      subst e3 e4
      refine V.at ?_ hl
      refine q_iload dX9_sumOf_5 rfl ?_
      refine q_bipush (v := 9) dX9_sumOf_7 rfl ?_
      refine q_icmp_ge 46 dX9_sumOf_9 (by decide) (fun _ => ?_) (fun z => absurd (ge_c 9 rfl (by omega) (by omega)) z)
      refine q_iload_n dX9_sumOf_46 rfl rfl ?_
      exact q_iret dX9_sumOf_47 rfl (Nat.zero_le _) (Nat.zero_le _) (⟨by rw [show k = 9 by omega], rfl, rfl⟩)
    | succ d ih =>
      intro k v3 v4 ls hk e3 e4 hl
      subst e3 e4
      refine V.at ?_ hl
      refine q_iload dX9_sumOf_5 rfl ?_
      refine q_bipush (v := 9) dX9_sumOf_7 rfl ?_
      refine q_icmp_ge 46 dX9_sumOf_9 (by decide) (fun z => absurd z (lt_c 9 rfl (by omega) (by omega))) (fun _ => ?_)
      refine q_iload_n dX9_sumOf_12 rfl rfl ?_
      refine q_iload_n dX9_sumOf_13 rfl rfl ?_
      refine q_iload dX9_sumOf_14 rfl ?_
      refine q_ishr dX9_sumOf_16 ?_
      refine q_iconst (v := 1) dX9_sumOf_17 rfl ?_
      refine q_iand dX9_sumOf_18 ?_
      refine q_iconst (v := 1) dX9_sumOf_19 rfl ?_
      refine q_icmp_ne 37 dX9_sumOf_20 (by decide) (fun cA => ?_) (fun cA => ?_)
      · refine q_iconst (v := 0) dX9_sumOf_37 rfl ?_
        refine q_iadd dX9_sumOf_38 ?_
        refine q_istore_n dX9_sumOf_39 rfl (by decide) ?_
        refine q_iinc1 dX9_sumOf_40 rfl (by decide) ?_
        refine q_goto 5 dX9_sumOf_43 (by decide) ?_
        exact ih (k + 1) _ _ _ (by omega) (by simp only [lawS]; first | (rw [if_neg cA]; exact Int32.add_zero _) | rw [if_pos cA, cl3m (by omega) hw]) (nI_s k) ⟨rfl, rfl, rfl, rfl, rfl, trivial⟩
      · refine q_aload_n dX9_sumOf_23 rfl rfl ?_
        refine q_get dX9_sumOf_24 fX9_sumOf_55 (hM) rfl ?_
        refine q_iconst (v := 3) dX9_sumOf_27 rfl ?_
        refine q_iload dX9_sumOf_28 rfl ?_
        refine q_imul dX9_sumOf_30 ?_
        refine q_iload_n dX9_sumOf_31 rfl rfl ?_
        refine q_iadd dX9_sumOf_32 ?_
        refine q_iald dX9_sumOf_33 (hlw) (in3m (show k < 9 by omega) hw) ?_
        refine q_goto 38 dX9_sumOf_34 (by decide) ?_
        refine q_iadd dX9_sumOf_38 ?_
        refine q_istore_n dX9_sumOf_39 rfl (by decide) ?_
        refine q_iinc1 dX9_sumOf_40 rfl (by decide) ?_
        refine q_goto 5 dX9_sumOf_43 (by decide) ?_
        exact ih (k + 1) _ _ _ (by omega) (by simp only [lawS]; first | (rw [if_neg cA]; exact Int32.add_zero _) | rw [if_pos cA, cl3m (by omega) hw]) (nI_s k) ⟨rfl, rfl, rfl, rfl, rfl, trivial⟩
  refine Con.of (by decide +kernel) rfl rfl (Nat.le_of_ble_eq_true rfl) ?_
  refine q_iconst (v := 0) dX9_sumOf_0 rfl ?_
  refine q_istore_n dX9_sumOf_1 rfl (by decide) ?_
  refine q_iconst (v := 0) dX9_sumOf_2 rfl ?_
  refine q_istore dX9_sumOf_3 (by decide) ?_
  exact key 9 0 _ _ _ (by omega) rfl rfl ⟨rfl, rfl, rfl, rfl, rfl, trivial⟩
theorem n_bitsIn {s : Int32} : Det Γ l mX9_bitsIn rX9_bitsIn [.int s] as h (some (.int (bsS s 8))) h := by
  have key : ∀ (d k : Nat) (v1 v2 : Int32) (ls : List (Nat × Value)), k + d = 8 → v1 = bsS s k → v2 = nI k → lin ls [(0, .int s), (1, .int v1), (2, .int v2)] → V Γ l mX9_bitsIn rX9_bitsIn (Zm Γ rX9_bitsIn (qD (some (.int (bsS s 8))) as h)) 0 0 4 ls [] as h := by
    intro d
    induction d with
    | zero =>
      intro k v1 v2 ls hk e1 e2 hl
      subst e1 e2
      refine V.at ?_ hl
      refine q_iload_n dX9_bitsIn_4 rfl rfl ?_
      refine q_bipush (v := 8) dX9_bitsIn_5 rfl ?_
      refine q_icmp_ge 24 dX9_bitsIn_7 (by decide) (fun _ => ?_) (fun z => absurd (ge_c 8 rfl (by omega) (by omega)) z)
      refine q_iload_n dX9_bitsIn_24 rfl rfl ?_
      exact q_iret dX9_bitsIn_25 rfl (Nat.zero_le _) (Nat.zero_le _) (⟨by rw [show k = 8 by omega], rfl, rfl⟩)
    | succ d ih =>
      intro k v1 v2 ls hk e1 e2 hl
      subst e1 e2
      refine V.at ?_ hl
      refine q_iload_n dX9_bitsIn_4 rfl rfl ?_
      refine q_bipush (v := 8) dX9_bitsIn_5 rfl ?_
      refine q_icmp_ge 24 dX9_bitsIn_7 (by decide) (fun z => absurd z (lt_c 8 rfl (by omega) (by omega))) (fun _ => ?_)
      refine q_iload_n dX9_bitsIn_10 rfl rfl ?_
      refine q_iload_n dX9_bitsIn_11 rfl rfl ?_
      refine q_iload_n dX9_bitsIn_12 rfl rfl ?_
      refine q_ishr dX9_bitsIn_13 ?_
      refine q_iconst (v := 1) dX9_bitsIn_14 rfl ?_
      refine q_iand dX9_bitsIn_15 ?_
      refine q_iadd dX9_bitsIn_16 ?_
      refine q_istore_n dX9_bitsIn_17 rfl (by decide) ?_
      refine q_iinc1 dX9_bitsIn_18 rfl (by decide) ?_
      refine q_goto 4 dX9_bitsIn_21 (by decide) ?_
      exact ih (k + 1) _ _ _ (by omega) rfl (nI_s k) ⟨rfl, rfl, rfl, trivial⟩
  refine Con.of (by decide +kernel) rfl rfl (Nat.le_of_ble_eq_true rfl) ?_
  refine q_iconst (v := 0) dX9_bitsIn_0 rfl ?_
  refine q_istore_n dX9_bitsIn_1 rfl (by decide) ?_
  refine q_iconst (v := 0) dX9_bitsIn_2 rfl ?_
  refine q_istore_n dX9_bitsIn_3 rfl (by decide) ?_
  exact key 8 0 _ _ _ (by omega) rfl rfl ⟨rfl, rfl, rfl, trivial⟩
theorem n_heldAt {p : Nat} {x c : Int32} (hp : p < 8) (hM : hat as h m (mo tc r z)) (hf : hat as h (r 13) (aI Γ 240 f)) (hu : hat as h (r 17) (aI Γ 6 u)) : Det Γ l mX9_heldAt rX9_heldAt [.ref m, .int (nI p), .int c, .int x] as h (some (.int (hmF f u p x c))) h := by
  have key : ∀ (d k : Nat) (v4 v5 v6 : Int32) (ls : List (Nat × Value)), k + d = 10 → v4 = (hmS f u p x k).1 → v5 = (hmS f u p x k).2 → v6 = nI k → lin ls [(0, .ref m), (1, .int (nI p)), (2, .int c), (3, .int x), (4, .int v4), (5, .int v5), (6, .int v6)] → V Γ l mX9_heldAt rX9_heldAt (Zm Γ rX9_heldAt (qD (some (.int (hmF f u p x c))) as h)) 0 0 9 ls [] as h := by
    intro d
    induction d with
    | zero =>
      intro k v4 v5 v6 ls hk e4 e5 e6 hl
      subst e4 e5 e6
      refine V.at ?_ hl
      refine q_iload dX9_heldAt_9 rfl ?_
      refine q_bipush (v := 10) dX9_heldAt_11 rfl ?_
      refine q_icmp_ge 83 dX9_heldAt_13 (by decide) (fun _ => ?_) (fun z => absurd (ge_c 10 rfl (by omega) (by omega)) z)
      refine q_iload dX9_heldAt_83 rfl ?_
      refine q_iload dX9_heldAt_85 rfl ?_
      refine q_bipush (v := 100) dX9_heldAt_87 rfl ?_
      refine q_iload_n dX9_heldAt_89 rfl rfl ?_
      refine q_isub dX9_heldAt_90 ?_
      refine q_imul dX9_heldAt_91 ?_
      refine q_sipush (v := 1000) dX9_heldAt_92 rfl ?_
      refine q_idiv dX9_heldAt_95 ((by decide)) ?_
      refine q_bipush (v := 10) dX9_heldAt_96 rfl ?_
      refine q_imul dX9_heldAt_98 ?_
      refine q_iadd dX9_heldAt_99 ?_
      exact q_iret dX9_heldAt_100 rfl (Nat.zero_le _) (Nat.zero_le _) (⟨by rw [show k = 10 by omega]; rfl, rfl, rfl⟩)
    | succ d ih =>
      intro k v4 v5 v6 ls hk e4 e5 e6 hl
      subst e4 e5 e6
      refine V.at ?_ hl
      refine q_iload dX9_heldAt_9 rfl ?_
      refine q_bipush (v := 10) dX9_heldAt_11 rfl ?_
      refine q_icmp_ge 83 dX9_heldAt_13 (by decide) (fun z => absurd z (lt_c 10 rfl (by omega) (by omega))) (fun _ => ?_)
      refine q_aload_n dX9_heldAt_16 rfl rfl ?_
      refine q_get dX9_heldAt_17 fX9_heldAt_26 (hM) rfl ?_
      refine q_bipush (v := 10) dX9_heldAt_20 rfl ?_
      refine q_iload_n dX9_heldAt_22 rfl rfl ?_
      refine q_imul dX9_heldAt_23 ?_
      refine q_iload dX9_heldAt_24 rfl ?_
      refine q_iadd dX9_heldAt_26 ?_
      refine q_iald dX9_heldAt_27 (hf) (inM hp (show k < 10 by omega)) ?_
      rw [clM hp (by omega)]
      refine q_istore dX9_heldAt_28 (by decide) ?_
      refine q_iload dX9_heldAt_30 rfl ?_
      refine q_iload dX9_heldAt_32 rfl ?_
      refine q_iload_n dX9_heldAt_34 rfl rfl ?_
      refine q_icmp_ge 50 dX9_heldAt_35 (by decide) (fun cA => ?_) (fun cA => ?_)
      · refine q_iconst (v := 0) dX9_heldAt_50 rfl ?_
        refine q_iadd dX9_heldAt_51 ?_
        refine q_istore dX9_heldAt_52 (by decide) ?_
        refine q_iload dX9_heldAt_54 rfl ?_
        refine q_iload dX9_heldAt_56 rfl ?_
        refine q_iload_n dX9_heldAt_58 rfl rfl ?_
        refine q_icmp_ge 66 dX9_heldAt_59 (by decide) (fun cB => ?_) (fun cB => ?_)
        · refine q_iload dX9_heldAt_66 rfl ?_
          refine q_bipush (v := 10) dX9_heldAt_68 rfl ?_
          refine q_iload dX9_heldAt_70 rfl ?_
          refine q_isub dX9_heldAt_72 ?_
          refine q_imul dX9_heldAt_73 ?_
          refine q_iadd dX9_heldAt_74 ?_
          refine q_istore dX9_heldAt_75 (by decide) ?_
          refine q_iinc1 dX9_heldAt_77 rfl (by decide) ?_
          refine q_goto 9 dX9_heldAt_80 (by decide) ?_
          first
          | exact absurd cB cA
          | exact absurd cA cB
          | exact ih (k + 1) _ _ _ _ (by omega) (by simp only [hmS]; rw [if_pos (Int32.not_le.mp cA)]) (by simp only [hmS]; rw [if_pos (Int32.not_le.mp cA)]; exact Int32.add_zero _) (nI_s k) ⟨rfl, rfl, rfl, rfl, rfl, rfl, rfl, trivial⟩
          | exact ih (k + 1) _ _ _ _ (by omega) (by simp only [hmS]; rw [if_neg (Int32.not_lt.mpr cA)]; exact Int32.add_zero _) (by simp only [hmS]; rw [if_neg (Int32.not_lt.mpr cA)]) (nI_s k) ⟨rfl, rfl, rfl, rfl, rfl, rfl, rfl, trivial⟩
        · refine q_iconst (v := 0) dX9_heldAt_62 rfl ?_
          refine q_goto 74 dX9_heldAt_63 (by decide) ?_
          refine q_iadd dX9_heldAt_74 ?_
          refine q_istore dX9_heldAt_75 (by decide) ?_
          refine q_iinc1 dX9_heldAt_77 rfl (by decide) ?_
          refine q_goto 9 dX9_heldAt_80 (by decide) ?_
          first
          | exact absurd cB cA
          | exact absurd cA cB
          | exact ih (k + 1) _ _ _ _ (by omega) (by simp only [hmS]; rw [if_pos (Int32.not_le.mp cA)]) (by simp only [hmS]; rw [if_pos (Int32.not_le.mp cA)]; exact Int32.add_zero _) (nI_s k) ⟨rfl, rfl, rfl, rfl, rfl, rfl, rfl, trivial⟩
          | exact ih (k + 1) _ _ _ _ (by omega) (by simp only [hmS]; rw [if_neg (Int32.not_lt.mpr cA)]; exact Int32.add_zero _) (by simp only [hmS]; rw [if_neg (Int32.not_lt.mpr cA)]) (nI_s k) ⟨rfl, rfl, rfl, rfl, rfl, rfl, rfl, trivial⟩
      · refine q_iload dX9_heldAt_38 rfl ?_
        refine q_aload_n dX9_heldAt_40 rfl rfl ?_
        refine q_iload dX9_heldAt_41 rfl ?_
        refine q_callVd dX9_heldAt_43 wX9_heldAt_191 (n_asIs hM hu) (hM) ⟨_, _, rfl⟩ rfl rfl (Nat.le_of_ble_eq_true rfl) ⟨⟨Nat.le_of_ble_eq_true rfl, Nat.le_of_ble_eq_true rfl⟩, Nat.le_of_ble_eq_true rfl, Nat.le_of_ble_eq_true rfl⟩ ?_
        refine q_imul dX9_heldAt_46 ?_
        refine q_goto 51 dX9_heldAt_47 (by decide) ?_
        refine q_iadd dX9_heldAt_51 ?_
        refine q_istore dX9_heldAt_52 (by decide) ?_
        refine q_iload dX9_heldAt_54 rfl ?_
        refine q_iload dX9_heldAt_56 rfl ?_
        refine q_iload_n dX9_heldAt_58 rfl rfl ?_
        refine q_icmp_ge 66 dX9_heldAt_59 (by decide) (fun cB => ?_) (fun cB => ?_)
        · refine q_iload dX9_heldAt_66 rfl ?_
          refine q_bipush (v := 10) dX9_heldAt_68 rfl ?_
          refine q_iload dX9_heldAt_70 rfl ?_
          refine q_isub dX9_heldAt_72 ?_
          refine q_imul dX9_heldAt_73 ?_
          refine q_iadd dX9_heldAt_74 ?_
          refine q_istore dX9_heldAt_75 (by decide) ?_
          refine q_iinc1 dX9_heldAt_77 rfl (by decide) ?_
          refine q_goto 9 dX9_heldAt_80 (by decide) ?_
          first
          | exact absurd cB cA
          | exact absurd cA cB
          | exact ih (k + 1) _ _ _ _ (by omega) (by simp only [hmS]; rw [if_pos (Int32.not_le.mp cA)]) (by simp only [hmS]; rw [if_pos (Int32.not_le.mp cA)]; exact Int32.add_zero _) (nI_s k) ⟨rfl, rfl, rfl, rfl, rfl, rfl, rfl, trivial⟩
          | exact ih (k + 1) _ _ _ _ (by omega) (by simp only [hmS]; rw [if_neg (Int32.not_lt.mpr cA)]; exact Int32.add_zero _) (by simp only [hmS]; rw [if_neg (Int32.not_lt.mpr cA)]) (nI_s k) ⟨rfl, rfl, rfl, rfl, rfl, rfl, rfl, trivial⟩
        · refine q_iconst (v := 0) dX9_heldAt_62 rfl ?_
          refine q_goto 74 dX9_heldAt_63 (by decide) ?_
          refine q_iadd dX9_heldAt_74 ?_
          refine q_istore dX9_heldAt_75 (by decide) ?_
          refine q_iinc1 dX9_heldAt_77 rfl (by decide) ?_
          refine q_goto 9 dX9_heldAt_80 (by decide) ?_
          first
          | exact absurd cB cA
          | exact absurd cA cB
          | exact ih (k + 1) _ _ _ _ (by omega) (by simp only [hmS]; rw [if_pos (Int32.not_le.mp cA)]) (by simp only [hmS]; rw [if_pos (Int32.not_le.mp cA)]; exact Int32.add_zero _) (nI_s k) ⟨rfl, rfl, rfl, rfl, rfl, rfl, rfl, trivial⟩
          | exact ih (k + 1) _ _ _ _ (by omega) (by simp only [hmS]; rw [if_neg (Int32.not_lt.mpr cA)]; exact Int32.add_zero _) (by simp only [hmS]; rw [if_neg (Int32.not_lt.mpr cA)]) (nI_s k) ⟨rfl, rfl, rfl, rfl, rfl, rfl, rfl, trivial⟩
  refine Con.of (by decide +kernel) rfl rfl (Nat.le_of_ble_eq_true rfl) ?_
  refine q_iconst (v := 0) dX9_heldAt_0 rfl ?_
  refine q_istore dX9_heldAt_1 (by decide) ?_
  refine q_iconst (v := 0) dX9_heldAt_3 rfl ?_
  refine q_istore dX9_heldAt_4 (by decide) ?_
  refine q_iconst (v := 0) dX9_heldAt_6 rfl ?_
  refine q_istore dX9_heldAt_7 (by decide) ?_
  exact key 10 0 _ _ _ _ (by omega) rfl rfl rfl ⟨rfl, rfl, rfl, rfl, rfl, rfl, rfl, trivial⟩
end

