/-! THE LAW: its loop -/
section
variable {Γ : gT} {l : Launch} {Z : zT} {as : List Nat} {X m : Nat}
theorem lw_turn {h : aH} {i : Nat} {ls : List (Nat × Value)} (hi : INV Γ as X m h) (hL : i + 5 ≤ Γ.2.2.2.2.1) (hN : Γ.2.2.2.2.1 ≤ 2560) (K : ∀ (h1 : aH) (ls1 : List (Nat × Value)), INV Γ as X m h1 → lin ls1 (lsL Γ X m (nI i)) → V Γ l mL_law room_1 Z 49 1618 1052 ls1 [] as h1) (hls : lin ls (lsL Γ X m (nI i))) : V Γ l mL_law room_1 Z 49 1618 26 ls [] as h := by
  refine V.at ?_ hls
  refine q_aload_n dL_law_26 rfl rfl ?_
  refine q_iload_n dL_law_27 rfl rfl ?_
  refine q_ti (v := .int (Γ.2.2.2.2.2 (nI i).toNatClampNeg)) dL_law_28 (fun U H q => q.1) (in_nI (by omega) (by omega)) rfl ?_
  refine q_bipush (v := 31) dL_law_29 rfl ?_
  refine q_iand dL_law_31 ?_
  obtain ⟨j, hj, ej⟩ := pk_andE (Γ.2.2.2.2.2 (nI i).toNatClampNeg) (m := 31) 5 (by decide)
  refine V.stk (st' := [.int (nI j)]) ?_ (by rw [ej])
  have hl : lin (lsL Γ X m (nI i)) (lsL Γ X m (nI i)) := ⟨rfl, rfl, rfl, rfl, trivial⟩
  by_cases e0 : j = 0
  · subst e0; exact q_tableIn 168 dL_law_32 (by decide) (by decide) rfl (by decide) (lw_c0 hi hL hN K hl)
  by_cases e1 : j = 1
  · subst e1; exact q_tableIn 231 dL_law_32 (by decide) (by decide) rfl (by decide) (lw_c1 hi hL hN K hl)
  by_cases e2 : j = 2
  · subst e2; exact q_tableIn 244 dL_law_32 (by decide) (by decide) rfl (by decide) (lw_c2 hi hL hN K hl)
  by_cases e3 : j = 3
  · subst e3; exact q_tableIn 257 dL_law_32 (by decide) (by decide) rfl (by decide) (lw_c3 hi hL hN K hl)
  by_cases e4 : j = 4
  · subst e4; exact q_tableIn 290 dL_law_32 (by decide) (by decide) rfl (by decide) (lw_c4 hi hL hN K hl)
  by_cases e5 : j = 5
  · subst e5; exact q_tableIn 333 dL_law_32 (by decide) (by decide) rfl (by decide) (lw_c5 hi hL hN K hl)
  by_cases e6 : j = 6
  · subst e6; exact q_tableIn 366 dL_law_32 (by decide) (by decide) rfl (by decide) (lw_c6 hi hL hN K hl)
  by_cases e7 : j = 7
  · subst e7; exact q_tableIn 399 dL_law_32 (by decide) (by decide) rfl (by decide) (lw_c7 hi hL hN K hl)
  by_cases e8 : j = 8
  · subst e8; exact q_tableIn 422 dL_law_32 (by decide) (by decide) rfl (by decide) (lw_c8 hi hL hN K hl)
  by_cases e9 : j = 9
  · subst e9; exact q_tableIn 435 dL_law_32 (by decide) (by decide) rfl (by decide) (lw_c9 hi hL hN K hl)
  by_cases e10 : j = 10
  · subst e10; exact q_tableIn 458 dL_law_32 (by decide) (by decide) rfl (by decide) (lw_c10 hi hL hN K hl)
  by_cases e11 : j = 11
  · subst e11; exact q_tableIn 481 dL_law_32 (by decide) (by decide) rfl (by decide) (lw_c11 hi hL hN K hl)
  by_cases e12 : j = 12
  · subst e12; exact q_tableIn 535 dL_law_32 (by decide) (by decide) rfl (by decide) (lw_c12 hi hL hN K hl)
  by_cases e13 : j = 13
  · subst e13; exact q_tableIn 558 dL_law_32 (by decide) (by decide) rfl (by decide) (lw_c13 hi hL hN K hl)
  by_cases e14 : j = 14
  · subst e14; exact q_tableIn 591 dL_law_32 (by decide) (by decide) rfl (by decide) (lw_c14 hi hL hN K hl)
  by_cases e15 : j = 15
  · subst e15; exact q_tableIn 614 dL_law_32 (by decide) (by decide) rfl (by decide) (lw_c15 hi hL hN K hl)
  by_cases e16 : j = 16
  · subst e16; exact q_tableIn 647 dL_law_32 (by decide) (by decide) rfl (by decide) (lw_c16 hi hL hN K hl)
  by_cases e17 : j = 17
  · subst e17; exact q_tableIn 681 dL_law_32 (by decide) (by decide) rfl (by decide) (lw_c17 hi hL hN K hl)
  by_cases e18 : j = 18
  · subst e18; exact q_tableIn 704 dL_law_32 (by decide) (by decide) rfl (by decide) (lw_c18 hi hL hN K hl)
  by_cases e19 : j = 19
  · subst e19; exact q_tableIn 728 dL_law_32 (by decide) (by decide) rfl (by decide) (lw_c19 hi hL hN K hl)
  by_cases e20 : j = 20
  · subst e20; exact q_tableIn 751 dL_law_32 (by decide) (by decide) rfl (by decide) (lw_c20 hi hL hN K hl)
  by_cases e21 : j = 21
  · subst e21; exact q_tableIn 794 dL_law_32 (by decide) (by decide) rfl (by decide) (lw_c21 hi hL hN K hl)
  by_cases e22 : j = 22
  · subst e22; exact q_tableIn 837 dL_law_32 (by decide) (by decide) rfl (by decide) (lw_c22 hi hL hN K hl)
  by_cases e23 : j = 23
  · subst e23; exact q_tableIn 880 dL_law_32 (by decide) (by decide) rfl (by decide) (lw_c23 hi hL hN K hl)
  by_cases e24 : j = 24
  · subst e24; exact q_tableIn 913 dL_law_32 (by decide) (by decide) rfl (by decide) (lw_c24 hi hL hN K hl)
  by_cases e25 : j = 25
  · subst e25; exact q_tableIn 936 dL_law_32 (by decide) (by decide) rfl (by decide) (lw_c25 hi hL hN K hl)
  by_cases e26 : j = 26
  · subst e26; exact q_tableIn 969 dL_law_32 (by decide) (by decide) rfl (by decide) (lw_c26 hi hL hN K hl)
  by_cases e27 : j = 27
  · subst e27; exact q_tableIn 992 dL_law_32 (by decide) (by decide) rfl (by decide) (lw_c27 hi hL hN K hl)
  by_cases e28 : j = 28
  · subst e28; exact q_tableIn 1015 dL_law_32 (by decide) (by decide) rfl (by decide) (lw_c28 hi hL hN K hl)
  by_cases e29 : j = 29
  · subst e29; exact q_tableIn 1038 dL_law_32 (by decide) (by decide) rfl (by decide) (lw_c29 hi hL hN K hl)
  exact q_tableOut 1052 dL_law_32 (Or.inr (by rw [nI_toInt (by omega)]; omega)) (by decide) (K _ _ hi hl)
theorem lw_loop (hN : Γ.2.2.2.2.1 ≤ 2560) (E : ∀ (h1 : aH) (ls1 : List (Nat × Value)), V Γ l mL_law room_1 Z 49 1618 1058 ls1 [] as h1) : ∀ (n i : Nat) (x : Int32) (h : aH) (ls : List (Nat × Value)), Γ.2.2.2.2.1 - i ≤ n → i ≤ Γ.2.2.2.2.1 → x = nI i → INV Γ as X m h → lin ls (lsL Γ X m x) → V Γ l mL_law room_1 Z 49 1618 18 ls [] as h := by
  intro n
  induction n with
  | zero =>
    intro i x h ls h1 h2 hx hi hls
    subst hx
    refine V.at ?_ hls
    refine q_iload_n dL_law_18 rfl rfl ?_
    refine q_aload_n dL_law_19 rfl rfl ?_
    refine q_tlen (v := nI Γ.2.2.2.2.1) dL_law_20 (fun U H q => q.1) rfl ?_
    refine q_iconst (v := 5) dL_law_21 rfl ?_
    refine q_isub dL_law_22 ?_
    exact q_icmp_gt 1058 dL_law_23 (by decide) (fun _ => E _ _) (fun q => absurd (i32_lt.mpr (by rw [show (5 : Int32) = nI 5 from rfl, pk_sub_toInt (by omega) (by omega), nI_toInt (by omega)]; omega)) q)
  | succ n ih =>
    intro i x h ls h1 h2 hx hi hls
    subst hx
    refine V.at ?_ hls
    refine q_iload_n dL_law_18 rfl rfl ?_
    refine q_aload_n dL_law_19 rfl rfl ?_
    refine q_tlen (v := nI Γ.2.2.2.2.1) dL_law_20 (fun U H q => q.1) rfl ?_
    refine q_iconst (v := 5) dL_law_21 rfl ?_
    refine q_isub dL_law_22 ?_
    refine q_icmp_gt 1058 dL_law_23 (by decide) (fun _ => E _ _) (fun q => ?_)
    have hL : i + 5 ≤ Γ.2.2.2.2.1 := by
      rw [i32_lt, show (5 : Int32) = nI 5 from rfl, pk_sub_toInt (by omega) (by omega), nI_toInt (by omega)] at q
      omega
    refine lw_turn hi hL hN (fun h1 ls1 hi1 hl1 => ?_) ⟨rfl, rfl, rfl, rfl, trivial⟩
    refine V.at ?_ hl1
    refine q_iinc5 dL_law_1052 rfl (by decide) ?_
    refine q_goto 18 dL_law_1055 (by decide) ?_
    exact ih (i + 5) (nI i + 5) h1 _ (by omega) (by omega) (nI_add i 5) hi1 ⟨rfl, rfl, rfl, rfl, trivial⟩
end

